/** Promises 6 to 13: shows, first, many, there, early, go, turn, undo. */
final class ClocksTest {
    private static final int[] STRANGE = {-2, 96, 48 * 96, Integer.MIN_VALUE, Integer.MAX_VALUE};
    private static final Expect expect = new Expect("ClocksTest");

    public static void main(String[] args) {
        shows();
        first();
        many();
        there();
        early();
        go();
        turn();
        undo();
        undoesTenAtMost();
        expect.end();
    }

    private static void shows() {
        HouseHours x = Expect.townOf("house 40 1 2;leap 0 4 10;leap 0 4 1;house 0 9 1;leap 1 95 2;house 3 2 3;leap 2 0 5;");
        int[] slow = {40, 40, 41, 41, 5, 5, 6};
        for (int t = 0; t < slow.length; t++) {
            expect.due("shows(0, " + t + ")", x.shows(0, t), slow[t]);
        }
        expect.due("shows(0, 95)", x.shows(0, 95), (40 + 47 + 11) % 48);
        expect.due("shows(1, 5)", x.shows(1, 5), 45);
        expect.due("shows(1, 6)", x.shows(1, 6), 6);
        expect.due("shows(1, 94)", x.shows(1, 94), 846 % 48);
        expect.due("shows(1, 95)", x.shows(1, 95), 857 % 48);
        expect.due("shows(2, 0)", x.shows(2, 0), 8);
        expect.due("shows(2, 2)", x.shows(2, 2), 9);
        x.turn(0, 9);
        expect.due("shows(0, 0) turned", x.shows(0, 0), 1);
        expect.due("shows(0, 95) turned", x.shows(0, 95), 11);
        expect.due("shows(0, -1)", x.shows(0, -1), HouseHours.BAD);
        expect.due("shows(-1, 0)", x.shows(-1, 0), HouseHours.BAD);
        expect.due("shows(3, 0)", x.shows(3, 0), HouseHours.BAD);
        for (int strange : STRANGE) {
            expect.due("shows(0, " + strange + ")", x.shows(0, strange), HouseHours.BAD);
            expect.due("shows(" + strange + ", 0)", x.shows(strange, 0), HouseHours.BAD);
        }
    }

    private static void first() {
        HouseHours x = Expect.townOf("house 0 1 1;house 10 1 9;");
        expect.due("first(0, 5, 0)", x.first(0, 5, 0), 5);
        expect.due("first(0, 5, 5)", x.first(0, 5, 5), 5);
        expect.due("first(0, 5, 6)", x.first(0, 5, 6), 53);
        expect.due("first(0, 47, 95)", x.first(0, 47, 95), 95);
        expect.due("first(0, 46, 95)", x.first(0, 46, 95), HouseHours.NONE);
        expect.due("first(1, 20, 0)", x.first(1, 20, 0), 90);
        expect.due("first(1, 21, 0)", x.first(1, 21, 0), HouseHours.NONE);
        x.turn(1, 1);
        expect.due("first(1, 21, 0) turned", x.first(1, 21, 0), 90);
        expect.due("first(2, 0, 0)", x.first(2, 0, 0), HouseHours.BAD);
        expect.due("first(0, 48, 0)", x.first(0, 48, 0), HouseHours.BAD);
        expect.due("first(0, -1, 0)", x.first(0, -1, 0), HouseHours.BAD);
        expect.due("first(0, 0, -1)", x.first(0, 0, -1), HouseHours.BAD);
        for (int strange : STRANGE) {
            expect.due("first(" + strange + ", 0, 0)", x.first(strange, 0, 0), HouseHours.BAD);
            expect.due("first(0, " + strange + ", 0)", x.first(0, strange, 0), HouseHours.BAD);
            expect.due("first(0, 0, " + strange + ")", x.first(0, 0, strange), HouseHours.BAD);
        }
    }

    private static void many() {
        HouseHours x = Expect.townOf("house 0 1 1;house 10 1 9;house 0 6 1;leap 2 48 1;");
        expect.due("many(0, 0)", x.many(0, 0), 2);
        expect.due("many(0, 47)", x.many(0, 47), 2);
        expect.due("many(0, -1)", x.many(0, -1), 0);
        expect.due("many(1, 10)", x.many(1, 10), 9);
        expect.due("many(1, 20)", x.many(1, 20), 6);
        expect.due("many(1, 21)", x.many(1, 21), 0);
        expect.due("many(1, -1)", x.many(1, -1), 37);
        expect.due("many(2, 0)", x.many(2, 0), 6);
        expect.due("many(2, 1)", x.many(2, 1), 6);
        expect.due("many(2, -1)", x.many(2, -1), 32);
        HouseHours once = Expect.townOf("house 0 1 9;leap 0 1 20;");
        expect.due("many(0, 0), once", once.many(0, 0), 1);
        expect.due("many(0, -1), 0 and 20 .. 30", once.many(0, -1), 36);
        x.turn(1, 47);
        expect.due("many(1, 9) turned", x.many(1, 9), 9);
        expect.due("many(1, -1) turned", x.many(1, -1), 37);
        expect.due("many(0, 48)", x.many(0, 48), HouseHours.BAD);
        expect.due("many(3, -1)", x.many(3, -1), HouseHours.BAD);
        expect.due("many(-1, -1)", x.many(-1, -1), HouseHours.BAD);
        for (int strange : STRANGE) {
            expect.due("many(0, " + strange + ")", x.many(0, strange), HouseHours.BAD);
            expect.due("many(" + strange + ", 0)", x.many(strange, 0), HouseHours.BAD);
        }
    }

    private static void there() {
        HouseHours x = Expect.townOf("house 0 1 1;house 10 1 9;house 5 2 1;");
        expect.due("there(0, 7, 2)", x.there(0, 7, 2), 19);
        expect.due("there(1, 11, 0)", x.there(1, 11, 0), 9);
        expect.due("there(1, 20, 2)", x.there(1, 20, 2), 185 % 48);
        expect.due("there(1, 21, 2)", x.there(1, 21, 2), HouseHours.NONE);
        expect.due("there(2, 5, 0)", x.there(2, 5, 0), 0);
        expect.due("there(2, 6, 0)", x.there(2, 6, 0), HouseHours.NONE);
        expect.due("there(0, 30, 0)", x.there(0, 30, 0), 30);
        expect.due("there(3, 0, 0)", x.there(3, 0, 0), HouseHours.BAD);
        expect.due("there(0, 0, 3)", x.there(0, 0, 3), HouseHours.BAD);
        expect.due("there(1, 21, 3)", x.there(1, 21, 3), HouseHours.BAD);
        expect.due("there(0, 48, 1)", x.there(0, 48, 1), HouseHours.BAD);
        for (int strange : STRANGE) {
            expect.due("there(" + strange + ", 0, 0)", x.there(strange, 0, 0), HouseHours.BAD);
            expect.due("there(0, " + strange + ", 0)", x.there(0, strange, 0), HouseHours.BAD);
            expect.due("there(0, 0, " + strange + ")", x.there(0, 0, strange), HouseHours.BAD);
        }
    }

    private static void early() {
        // The second clock is one behind: by a WALK of one it shows what the first one did, but where it wraps.
        HouseHours x = Expect.townOf("house 0 1 1;house 47 1 1;");
        expect.due("early(0, 1, 0)", x.early(0, 1, 0), 0);
        expect.due("early(0, 1, 1)", x.early(0, 1, 1), HouseHours.NONE);
        expect.due("early(1, 0, 0)", x.early(1, 0, 0), 3);
        expect.due("early(1, 0, 1)", x.early(1, 0, 1), 0);
        HouseHours near = Expect.townOf("house 0 1 1;house 47 1 1;walk 0;");
        expect.due("early(0, 1, 0), none to walk", near.early(0, 1, 0), 94);
        expect.due("early(0, 1, 1), none to walk", near.early(0, 1, 1), 1);
        expect.due("early(1, 0, 0), none to walk", near.early(1, 0, 0), 2);
        HouseHours far = Expect.townOf("house 0 1 1;house 0 1 1;walk 9;");
        expect.due("early(0, 1, 0), far", far.early(0, 1, 0), 9);
        expect.due("early(0, 1, 1), far", far.early(0, 1, 1), 39);
        far.turn(1, 30);
        expect.due("early(0, 1, 0), far and turned", far.early(0, 1, 0), 39 + 30);
        expect.due("early(0, 1, 1), far and turned", far.early(0, 1, 1), 9);
        expect.due("early(0, 0, 0)", x.early(0, 0, 0), HouseHours.BAD);
        expect.due("early(0, 2, 0)", x.early(0, 2, 0), HouseHours.BAD);
        expect.due("early(2, 0, 0)", x.early(2, 0, 0), HouseHours.BAD);
        expect.due("early(0, 1, 2)", x.early(0, 1, 2), HouseHours.BAD);
        expect.due("early(0, 1, -1)", x.early(0, 1, -1), HouseHours.BAD);
        for (int strange : STRANGE) {
            expect.due("early(" + strange + ", 0, 0)", x.early(strange, 0, 0), HouseHours.BAD);
            expect.due("early(0, " + strange + ", 0)", x.early(0, strange, 0), HouseHours.BAD);
            expect.due("early(0, 1, " + strange + ")", x.early(0, 1, strange), HouseHours.BAD);
        }
    }

    private static void go() {
        HouseHours x = new HouseHours();
        for (int bad : new int[] {0, -1, 96, Integer.MIN_VALUE, Integer.MAX_VALUE}) {
            expect.due("go(" + bad + ")", x.go(bad), HouseHours.BAD);
        }
        expect.due("go(1)", x.go(1), 1);
        expect.due("go(95)", x.go(95), HouseHours.STATE);
        expect.due("NOW", x.count(2), 1);
        expect.due("go(94)", x.go(94), 95);
        expect.due("go(1)", x.go(1), HouseHours.STATE);
        expect.due("go(0)", x.go(0), HouseHours.BAD);
        expect.due("go(96)", x.go(96), HouseHours.BAD);
        expect.due("NOW", x.count(2), 95);
    }

    private static void turn() {
        HouseHours x = Expect.townOf("house 0 1 1;house 10 1 1;");
        x.go(20);
        expect.due("turn(1, 1)", x.turn(1, 1), 31);
        expect.due("turn(1, 47)", x.turn(1, 47), 30);
        expect.due("turn(0, 47)", x.turn(0, 47), 19);
        expect.due("shows(0, 0)", x.shows(0, 0), 47);
        expect.due("shows(0, 95)", x.shows(0, 95), 46);
        expect.due("turn(0, 0)", x.turn(0, 0), HouseHours.BAD);
        expect.due("turn(0, -1)", x.turn(0, -1), HouseHours.BAD);
        expect.due("turn(0, 48)", x.turn(0, 48), HouseHours.BAD);
        expect.due("turn(-1, 1)", x.turn(-1, 1), HouseHours.BAD);
        expect.due("turn(2, 1)", x.turn(2, 1), HouseHours.BAD);
        for (int strange : STRANGE) {
            expect.due("turn(" + strange + ", 1)", x.turn(strange, 1), HouseHours.BAD);
            expect.due("turn(0, " + strange + ")", x.turn(0, strange), HouseHours.BAD);
        }
        expect.due("TURNS known", x.count(6), 3);
        expect.due("shows(0, 0)", x.shows(0, 0), 47);
    }

    private static void undo() {
        HouseHours x = Expect.townOf("house 0 1 1;house 10 1 1;");
        expect.due("undo()", x.undo(), HouseHours.STATE);
        x.turn(1, 40);
        x.turn(0, 5);
        x.go(3);
        x.turn(1, 20);
        expect.due("undo()", x.undo(), 1);
        expect.due("NOW", x.count(2), 3);
        expect.due("shows(1, 0)", x.shows(1, 0), 2);
        expect.due("undo()", x.undo(), 0);
        expect.due("shows(0, 0)", x.shows(0, 0), 0);
        x.turn(0, 7);
        expect.due("TURNS known", x.count(6), 2);
        expect.due("undo()", x.undo(), 0);
        expect.due("undo()", x.undo(), 1);
        expect.due("house(1, 4)", x.house(1, 4), 0);
        expect.due("undo()", x.undo(), HouseHours.STATE);
    }

    private static void undoesTenAtMost() {
        HouseHours x = Expect.townOf("house 0 1 1;house 10 1 1;house 20 1 1;");
        int[] turned = {0, 1, 0, 2, 2, 1, 0, 0, 1, 2, 1, 1};
        for (int i = 0; i < 12; i++) {
            x.turn(turned[i], i + 1);
        }
        expect.due("TURNS known", x.count(6), 10);
        for (int i = 11; i >= 2; i--) {
            expect.due("undo()", x.undo(), turned[i]);
        }
        expect.due("undo()", x.undo(), HouseHours.STATE);
        expect.due("house(0, 4)", x.house(0, 4), 1);
        expect.due("house(1, 4)", x.house(1, 4), 2);
        expect.due("house(2, 4)", x.house(2, 4), 0);
    }
}
