/** What the tests by hand have in common: feeding texts, comparing answers, and the exit code. */
final class Check {
    private final String name;
    private int wrong = 0;
    private int looked = 0;

    Check(String name) {
        this.name = name;
    }

    void due(String what, int got, int want) {
        looked++;
        if (got != want) {
            wrong++;
            System.out.println(name + ": " + what + " answered " + got + ", due is " + want);
        }
    }

    void finish() {
        System.out.println(name + ": " + looked + " answers, " + wrong + " wrong");
        if (wrong != 0) {
            System.exit(1);
        }
    }

    /** Puts a text on the empty TAPE. */
    static AimFerry feed(AimFerry f, String text) {
        f.end(0);
        for (int at = 0; at < text.length(); at += 20) {
            int[] five = new int[5];
            for (int k = 0; k < 20; k++) {
                int sign = at + k < text.length() ? text.charAt(at + k) : 0;
                five[k / 4] = five[k / 4] << 8 | sign;
            }
            f.feed(five[0], five[1], five[2], five[3], five[4]);
        }
        f.end(text.length());
        return f;
    }

    static AimFerry crossing(String text) {
        return crossing(new AimFerry(), text);
    }

    static AimFerry crossing(AimFerry f, String text) {
        if (feed(f, text).ferry() < 0) {
            throw new IllegalArgumentException(text);
        }
        return f;
    }

    static AimFerry rule(AimFerry f, String text) {
        int rule = feed(f, text).rule();
        if (rule < 0) {
            throw new IllegalArgumentException(text);
        }
        f.force(rule);
        return f;
    }

    /** What a call says of a FAULT. */
    static int fault(int place, int kind) {
        return -2 - (1 + 8 * place + kind);
    }
}
