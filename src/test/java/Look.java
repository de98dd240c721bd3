/** All that an object can be asked about what it holds, as one text; the object is used up by it. */
final class Look {
    private static final int[] QUARTERS = {0, 1, 20, 41, 60, 95};

    private final HouseHours x;
    private final StringBuilder all = new StringBuilder();

    private Look(HouseHours x) {
        this.x = x;
    }

    static String at(HouseHours x) {
        Look look = new Look(x);
        look.tellAll();
        return look.all.toString();
    }

    private void tellAll() {
        tellPresent();
        tellUndone();
        for (int image = 0; image < 2; image++) {
            tell("image", x.back(image));
            tellPresent();
            tellUndone();
        }
        tell("town", x.town());
        tell("left", x.clear());
        tellPresent();
    }

    private void tellPresent() {
        for (int what = 0; what < 8; what++) {
            tell("count", x.count(what));
        }
        tell("trace", x.trace());
        for (int h = 0; h < x.count(0); h++) {
            tellHouse(h);
        }
        for (int what = 0; what < 3; what++) {
            tell("whose", x.whose(what));
        }
        for (int k = -1; k < x.count(5); k++) {
            tell("due", x.due(k));
        }
    }

    private void tellHouse(int h) {
        for (int what = 0; what < 5; what++) {
            tell("house", x.house(h, what));
        }
        for (int t : QUARTERS) {
            tell("shows", x.shows(h, t));
        }
        for (int i = -1; i < 4; i++) {
            tell("soonest", x.soonest(h, i));
        }
    }

    private void tellUndone() {
        for (int i = x.count(6); i >= 0; i--) {
            int h = x.undo();
            tell("undo", h);
            tell("turned", x.house(h, 4));
        }
    }

    private void tell(String what, long answer) {
        all.append(what).append(' ').append(answer).append(' ');
    }
}
