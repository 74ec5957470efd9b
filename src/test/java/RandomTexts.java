import java.util.Random;

/** Texts by chance, always the same ones by the same seed. */
final class RandomTexts {
    private static final String[] KINDS = {"int", "long", "short", "byte", "char"};
    private static final String[] CHANGES = {"+=", "-=", "^=", "<<", ">>"};

    final Random random;

    RandomTexts(long seed) {
        random = new Random(seed);
    }

    String steps(int depth, int most, boolean ordinary) {
        StringBuilder text = new StringBuilder();
        int n = random.nextInt(most + 1);
        for (int i = 0; i < n; i++) text.append(ordinary ? ordinaryStep(depth) : step(depth));
        return text.toString();
    }

    private String ordinaryStep(int depth) {
        int dice = random.nextInt(10);
        if (depth > 0 && dice < 2) return "while " + sum(1) + " { " + steps(depth - 1, 3, true) + "}; ";
        if (depth > 0 && dice < 4) {
            return "when " + sum(1) + " { " + steps(depth - 1, 2, true) + "} else { " + steps(depth - 1, 2, true) + "}; ";
        }
        String name = name();
        return "set " + name + " = " + (random.nextBoolean() ? name + "-+^".charAt(random.nextInt(3)) : "") + sum(1) + "; ";
    }

    private String step(int depth) {
        int dice = random.nextInt(depth > 0 ? 20 : 15);
        switch (dice) {
            case 0: return pick("let ", "unlet ") + own(name(), " = ", sum(1));
            case 1: return name() + " <> " + name() + "; ";
            case 2: return place() + " <> " + place() + "; ";
            case 3: return pick("push ", "pop ") + name() + pick(" S; ", " T; ");
            case 4: return pick("new ", "end ") + own(row(), " " + KINDS[random.nextInt(5)] + " ", pick("3", sum(1)));
            case 5: return pick("call ", "uncall ") + random.nextInt(4) + "; ";
            case 16: case 17:
                return ifStep(depth, sum(1));
            case 18:
                String counter = name();
                return "from (" + counter + " = 0) { " + steps(depth - 1, 2, false) + "} loop { " + counter + " += 1; "
                    + steps(depth - 1, 2, false) + "} until (" + counter + " = " + random.nextInt(5) + "); ";
            case 19:
                return "from " + sum(1) + " { " + steps(depth - 1, 2, false) + "} loop { " + steps(depth - 1, 2, false) + "} until "
                    + sum(1) + "; ";
            default: return own(place(), " " + CHANGES[random.nextInt(5)] + " ", sum(random.nextInt(3)));
        }
    }

    /** Often with one and the same test at both ends, so that it leads through. */
    private String ifStep(int depth, String test) {
        return "if " + test + " { " + steps(depth - 1, 3, false) + "} else { " + steps(depth - 1, 3, false) + "} fi "
            + (random.nextBoolean() ? test : sum(1)) + "; ";
    }

    /** What is changed, and an E in which it does not stand (so no fault 3). */
    private String own(String subject, String sign, String e) {
        boolean within = subject.length() == 1 && e.contains(subject);
        return subject + sign + (within ? "2" : e) + "; ";
    }

    private String place() {
        return random.nextInt(3) > 0 ? name() : row() + "[" + index() + "]";
    }

    private String index() {
        int dice = random.nextInt(8);
        if (dice == 0) return deep("" + random.nextInt(3));
        return dice > 2 ? "" + random.nextInt(3) : sum(1);
    }

    /** Eight brackets within one another, which leave what is within as it is. */
    private String deep(String e) {
        for (int n = 0; n < 8; n += 2) e = random.nextBoolean() ? "((" + e + "))" : "--" + e;
        return e;
    }

    private String sum(int depth) {
        String e = product(depth);
        while (random.nextInt(4) == 0) e += " " + "+-^|".charAt(random.nextInt(4)) + " " + product(depth);
        return e;
    }

    private String product(int depth) {
        String e = factor(depth);
        while (random.nextInt(4) == 0) e += " " + "**&&*&/%".charAt(random.nextInt(8)) + " " + factor(depth);
        return e;
    }

    private String factor(int depth) {
        switch (random.nextInt(depth > 0 ? 9 : 4)) {
            case 0: case 1: return name();
            case 2: case 3: return pick("" + random.nextInt(4), "" + random.nextInt(1000000));
            case 4: return row() + "[" + (random.nextInt(4) > 0 ? "" + random.nextInt(3) : sum(depth - 1)) + "]";
            case 5: return "#" + row();
            case 6: return "-" + factor(depth - 1);
            case 7: return "(" + sum(depth - 1) + pick(" < ", " = ") + sum(depth - 1) + ")";
            default: return "(" + sum(depth - 1) + ")";
        }
    }

    String name() {
        return "" + (char) ('a' + random.nextInt(4));
    }

    private String row() {
        return pick("A", "B");
    }

    private String pick(String a, String b) {
        return random.nextBoolean() ? a : b;
    }
}
