/** Compares answers with those that are due, and tells each one that is not. */
final class Expect {
    private final String test;
    private String sentence = "";
    private int ofSentence = 1;
    private int right;
    private int wrong;

    Expect(String test) {
        this.test = test;
    }

    static HouseHours townOf(String text) {
        HouseHours x = new HouseHours();
        typeAll(x, text);
        if (x.town() < 0) {
            throw new IllegalStateException("not a town: " + text);
        }
        return x;
    }

    static void typeAll(HouseHours x, String text) {
        for (int i = 0; i < text.length(); i += 8) {
            int n = Math.min(8, text.length() - i);
            long v = 0;
            for (int k = 0; k < n; k++) {
                v = v << 8 | text.charAt(i + k);
            }
            x.type(v, n);
        }
    }

    /** The answers that follow test this sentence of the document, which belongs to that promise. */
    void says(int promise, String words) {
        endSentence();
        sentence = "promise " + promise + " (" + words + "): ";
        ofSentence = 0;
    }

    void due(String call, long got, long want) {
        ofSentence++;
        if (got == want) {
            right++;
        } else {
            wrong++;
            System.out.println(test + ": " + sentence + call + " answered " + got + ", due is " + want);
        }
    }

    void alike(String call, String got, String want) {
        due(call + " [" + got + "] as [" + want + "]", got.equals(want) ? 1 : 0, 1);
    }

    void end() {
        endSentence();
        System.out.println(test + ": " + right + " answers as due, " + wrong + " not");
        if (wrong > 0 || right == 0) {
            System.exit(1);
        }
    }

    private void endSentence() {
        if (ofSentence == 0) {
            wrong++;
            System.out.println(test + ": " + sentence + "nothing was tested");
        }
    }
}
