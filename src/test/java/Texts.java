import java.util.Random;

/** Random texts: most can be read, some are spoiled, some are too deep. */
final class Texts {
    private final Random random;
    private final String names;
    private final int deepest;
    private final StringBuilder text = new StringBuilder();

    private Texts(Random random, String names, int deepest) {
        this.random = random;
        this.names = names;
        this.deepest = deepest;
    }

    static String any(Random random) {
        String names = "abcdef".substring(0, 1 + random.nextInt(random.nextInt(4) == 0 ? 6 : 2));
        int deepest = random.nextInt(12) == 0 ? 9 : 3 + random.nextInt(5);
        String text = "";
        for (int tries = 0; tries < 20 && text.isEmpty(); tries++) {
            Texts texts = new Texts(random, names, deepest);
            texts.process(1, "", 2 + random.nextInt(6));
            text = texts.text.length() <= 120 ? texts.text.toString() : "";
        }
        if (random.nextInt(6) == 0) {
            text = spaced(random, text);
        }
        return random.nextInt(7) == 0 ? spoiled(random, text) : text;
    }

    /** Much beside one another, at or over the limits of a state. */
    static String crowded(Random random) {
        String[] parts = {"'a", "a[0]", "!?x.'x", "?x.('x|'x)", ">a.0", "!^a.a[a[0]]", "'b", "?y.?x.y['x]"};
        String one = parts[random.nextInt(parts.length)];
        String two = parts[random.nextInt(parts.length)];
        StringBuilder text = new StringBuilder(one);
        while (text.length() < 110 && random.nextInt(60) > 0) {
            text.append('|').append(random.nextInt(5) == 0 ? two : one);
        }
        return text.length() <= 120 ? text.toString() : text.substring(0, 120);
    }

    // In these N stands for any name, P for one of PARTS, Q for one of TAILS.
    private static final String[] SHAPES = {
        "N[>N.P|P]", "N[!>N.P|P]", "N[N[<N.P|P]|P]", "N[N[!<N.P]]", "^N.P", "!^N.P", "?x.Q", "!?x.Q", "'N", "'N",
        "N[P]", "N[^N.P|N[P]]", "N[?x.Q|'N|'N]", "N[!?x.Q|'N]", "N[<N.P|>N.P]"};
    private static final String[] PARTS = {
        "0", "'N", "N[0]", "N['N]", ">N.0", "<N.'N", "^N.0", "!<N.0", "!>N.'N", "N[N[<N.0]]", "?z.z[0]"};
    private static final String[] TAILS = {
        "x[0]", "'x", "(x['x]|N[0])", ">x.<x.0", "!^x.'x", "(x[>x.0]|x[<N.0])", "('x|'N)", "?x.x['x]",
        "?y.('x|y[x[0]])", "?y.?x.(y[x['y]]|P)"};

    /** Parts that meet one another often: few names, guards inside places beside others. */
    static String lively(Random random) {
        String names = "abcdef".substring(0, 1 + random.nextInt(3));
        StringBuilder text = new StringBuilder(filled(random, pick(random, SHAPES), names));
        for (int tries = random.nextInt(14); tries > 0; tries--) {
            String more = filled(random, pick(random, SHAPES), names);
            if (text.length() + 1 + more.length() <= 120) {
                text.append('|').append(more);
            }
        }
        return text.toString();
    }

    // Parts that a pump makes again and again; in them N stands for any name, x for the pump's letter.
    private static final String[] PUMPED = {
        "N[0]", "x['N]", "N[x[0]]", "'x", "'N", ">N.0", "!<x.0", "^x.0", ">N.>N.>N.0", "<N.('x|'N)", "?y.y[0]",
        "N[>x.0]", "!>N.N['x]", "N[N[<N.0]]", "?x.'x", "!?y.(y[0]|'y)"};
    private static final String[] BESIDE = {
        "0", "'N", "N[0]", ">N.0", "!>N.0", "!>N.!>N.0", "^N.N[0]", "!^N.'N", "N[!>N.'N]", "N[N[!<N.'N]]", "?x.(x[0]|'x)", "(0)"};

    /** A replica that takes a message and gives it back with more beside it, so that all limits come near. */
    static String growing(Random random) {
        String names = "abcdef".substring(0, 1 + random.nextInt(4));
        StringBuilder text = new StringBuilder("!?x.('x");
        for (int many = 1 + random.nextInt(3); many > 0; many--) {
            text.append('|').append(filled(random, pick(random, PUMPED), names));
        }
        text.append(")|'").append(names.charAt(0));
        for (int tries = random.nextInt(8); tries > 0; tries--) {
            String more = filled(random, pick(random, BESIDE), names);
            if (text.length() + 1 + more.length() <= 120) {
                text.append('|').append(more);
            }
        }
        return text.toString();
    }

    private static String pick(Random random, String[] from) {
        return from[random.nextInt(from.length)];
    }

    private static String filled(Random random, String shape, String names) {
        StringBuilder text = new StringBuilder();
        for (char c : shape.toCharArray()) {
            switch (c) {
                case 'N': text.append(names.charAt(random.nextInt(names.length()))); break;
                case 'P': text.append(filled(random, pick(random, PARTS), names)); break;
                case 'Q': text.append(filled(random, pick(random, TAILS), names)); break;
                default: text.append(c);
            }
        }
        return text.toString();
    }

    private static String spaced(Random random, String text) {
        StringBuilder spaced = new StringBuilder(text);
        for (int many = random.nextInt(8); many > 0 && spaced.length() < 120; many--) {
            spaced.insert(random.nextInt(spaced.length() + 1), ' ');
        }
        return spaced.toString();
    }

    private static String spoiled(Random random, String text) {
        String any = "0[]()'!><^?.|abcfgwxyz $A~";
        if (text.isEmpty()) {
            return text;
        }
        int at = random.nextInt(text.length());
        String other = String.valueOf(any.charAt(random.nextInt(any.length())));
        switch (random.nextInt(4)) {
            case 0: return text.substring(0, at) + text.substring(at + 1);
            case 1: return text.substring(0, at) + other + text.substring(at + 1);
            case 2: return text.substring(0, at);
            default: return text.length() < 120 ? text.substring(0, at) + other + text.substring(at) : text;
        }
    }

    private void process(int depth, String bound, int most) {
        int many = 1 + random.nextInt(most);
        for (int i = 0; i < many; i++) {
            if (i > 0) {
                text.append('|');
            }
            part(depth, bound);
        }
    }

    private void part(int depth, String bound) {
        int kind = depth >= deepest ? random.nextInt(2) : random.nextInt(12);
        if (kind == 0 && random.nextInt(3) == 0) {
            text.append('0');
        } else if (kind < 3) {
            text.append('\'').append(name(bound));
        } else if (kind == 3) {
            text.append('(');
            process(depth + 1, bound, 2);
            text.append(')');
        } else if (kind < 7) {
            text.append(name(bound)).append('[');
            process(depth + 1, bound, 3);
            text.append(']');
        } else {
            guard(depth, bound);
        }
    }

    private void guard(int depth, String bound) {
        char sign = "><^?".charAt(random.nextInt(4));
        char name = sign == '?' ? "xyz".charAt(random.nextInt(random.nextInt(3) + 1)) : name(bound);
        text.append(random.nextInt(3) == 0 ? "!" : "").append(sign).append(name).append('.');
        String inTail = sign == '?' ? bound + name : bound;
        if (random.nextInt(3) == 0 && depth + 1 < deepest) {
            text.append('(');
            process(depth + 2, inTail, 3);
            text.append(')');
        } else {
            part(depth + 1, inTail);
        }
    }

    private char name(String bound) {
        boolean asBound = !bound.isEmpty() && random.nextInt(3) > 0;
        return asBound ? bound.charAt(random.nextInt(bound.length())) : names.charAt(random.nextInt(names.length()));
    }
}
