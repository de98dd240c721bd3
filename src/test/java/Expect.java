/** Compares answers with those that are due, and tells each one that is not. */
final class Expect {
    private final String test;
    private int right;
    private int wrong;

    Expect(String test) {
        this.test = test;
    }

    static HouseHours townOf(String text) {
        HouseHours x = new HouseHours();
        typeAll(x, text);
        if (x.town() < 0) {
            throw new IllegalStateException("not a town: " + text);
        }
        return x;
    }

    static void typeAll(HouseHours x, String text) {
        for (int i = 0; i < text.length(); i++) {
            x.type(text.charAt(i), 1);
        }
    }

    void due(String call, long got, long want) {
        if (got == want) {
            right++;
        } else {
            wrong++;
            System.out.println(test + ": " + call + " answered " + got + ", due is " + want);
        }
    }

    void end() {
        System.out.println(test + ": " + right + " answers as due, " + wrong + " not");
        if (wrong > 0 || right == 0) {
            System.exit(1);
        }
    }
}
