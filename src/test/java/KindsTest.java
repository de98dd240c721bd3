/** Promises 25 to 29: mark, keep, back, count, trace. */
final class KindsTest {
    private static final int BAD = HouseHours.BAD;
    private static final int STATE = HouseHours.STATE;
    private static final int[] STRANGE = {-1, 6, 600, Integer.MIN_VALUE, Integer.MAX_VALUE};
    private static final Expect expect = new Expect("KindsTest");

    public static void main(String[] args) {
        marks();
        refusesMarks();
        traces();
        keepsAndBack();
        keepsTurnsToUndo();
        keepsNothingElse();
        refusesImages();
        counts();
        expect.end();
    }

    private static void marks() {
        HouseHours x = Expect.townOf("house 0 9 5;leap 0 90 1;leap 0 91 1;house 30 2 7;");
        marksAre(x, 0, 0, 2, -9, 4, -4, 0);
        marksAre(x, 1, 30, 30, 28, 60, 35, 30);
        x.go(10);
        x.turn(0, 1);
        marksAre(x, 0, 19, 21, 10, 42, 15, 29);
        marksAre(x, 1, 32, 32, 30, 64, 37, 42);
    }

    private static void marksAre(HouseHours x, int h, int... want) {
        for (int kind = 0; kind < want.length; kind++) {
            expect.due("mark(" + kind + ", " + h + ")", x.mark(kind, h), want[kind]);
        }
    }

    private static void refusesMarks() {
        HouseHours x = Expect.townOf("house 0 9 5;");
        expect.due("mark(0, 1)", x.mark(0, 1), HouseHours.NO);
        for (int strange : STRANGE) {
            expect.due("mark(" + strange + ", 0)", x.mark(strange, 0), HouseHours.NO);
            expect.due("mark(5, " + strange + ")", x.mark(5, strange), HouseHours.NO);
        }
        expect.due("trace()", x.trace(), 0);
        expect.due("mark(0, 0), no HOUSES", new HouseHours().mark(0, 0), HouseHours.NO);
    }

    private static void traces() {
        long[] asked = {1, 11, 101, 1011, 10101, 100001};
        long all = 0;
        HouseHours x = Expect.townOf("house 0 9 5;");
        for (int kind = 0; kind < asked.length; kind++) {
            x.mark(kind, 0);
            all += asked[kind];
            expect.due("trace() after mark(" + kind + ")", x.trace(), all);
        }
        x.keep(0);
        x.mark(5, 0);
        x.back(0);
        expect.due("trace() after back", x.trace(), all + 100001);
        x.town();
        expect.due("trace() after town", x.trace(), all + 100001);
        Expect.typeAll(x, "house 1 1 1;");
        x.town();
        x.mark(1, 0);
        expect.due("trace() in another town", x.trace(), all + 100012);
    }

    private static void keepsAndBack() {
        HouseHours x = Expect.townOf("house 0 1 1;house 10 1 1;");
        x.go(4);
        x.turn(1, 5);
        expect.due("keep(0)", x.keep(0), 4);
        x.go(6);
        x.turn(0, 7);
        expect.due("keep(1)", x.keep(1), 10);
        x.go(80);
        x.turn(1, 9);
        expect.due("back(0)", x.back(0), 4);
        expect.due("NOW", x.count(2), 4);
        expect.due("TURNS of 0", x.house(0, 4), 0);
        expect.due("TURNS of 1", x.house(1, 4), 5);
        expect.due("TURNS known", x.count(6), 1);
        expect.due("back(1)", x.back(1), 10);
        expect.due("TURNS of 0", x.house(0, 4), 7);
        expect.due("TURNS of 1", x.house(1, 4), 5);
        expect.due("shows(0, 0)", x.shows(0, 0), 7);
        x.go(1);
        x.turn(0, 1);
        expect.due("back(1) again", x.back(1), 10);
        expect.due("TURNS of 0", x.house(0, 4), 7);
        expect.due("keep(0) again", x.keep(0), 10);
        x.go(2);
        expect.due("back(0)", x.back(0), 10);
    }

    private static void keepsTurnsToUndo() {
        HouseHours x = Expect.townOf("house 0 1 1;house 10 1 1;");
        x.turn(0, 1);
        x.turn(1, 2);
        x.keep(1);
        x.undo();
        x.undo();
        for (int by = 20; by < 32; by++) {
            x.turn((by + 1) % 2, by);
        }
        expect.due("back(1)", x.back(1), 0);
        expect.due("TURNS known", x.count(6), 2);
        expect.due("undo()", x.undo(), 1);
        expect.due("TURNS of 1", x.house(1, 4), 0);
        expect.due("undo()", x.undo(), 0);
        expect.due("TURNS of 0", x.house(0, 4), 0);
        expect.due("undo()", x.undo(), STATE);
        expect.due("back(1)", x.back(1), 0);
        expect.due("undo()", x.undo(), 1);
    }

    private static void keepsNothingElse() {
        HouseHours x = Expect.townOf("house 0 1 1;house 10 1 1;");
        x.keep(0);
        x.errand(0, 0, 1, 1);
        x.owes(0, 1, 1);
        x.saw(0, 0);
        x.type(32, 1);
        x.back(0);
        int[] counts = {2, 1, 0, 1, 1, 1, 0, 1};
        for (int what = 0; what < counts.length; what++) {
            expect.due("count(" + what + ")", x.count(what), counts[what]);
        }
    }

    private static void refusesImages() {
        HouseHours x = Expect.townOf("house 0 1 1;");
        expect.due("keep(2)", x.keep(2), BAD);
        expect.due("back(2)", x.back(2), BAD);
        for (int strange : STRANGE) {
            expect.due("keep(" + strange + ")", x.keep(strange), BAD);
            expect.due("back(" + strange + ")", x.back(strange), BAD);
        }
        expect.due("back(0)", x.back(0), STATE);
        x.keep(1);
        expect.due("back(0)", x.back(0), STATE);
        expect.due("back(1)", x.back(1), 0);
        x.clear();
        Expect.typeAll(x, "wrong");
        x.town();
        expect.due("back(1) after a FAULT", x.back(1), 0);
        x.clear();
        x.town();
        expect.due("back(1) after a town", x.back(1), STATE);
    }

    private static void counts() {
        HouseHours x = Expect.townOf("house 0 1 1;house 10 1 1;house 0 1 1;walk 8;");
        x.go(9);
        x.errand(0, 0, 0, 0);
        x.saw(0, 0);
        x.saw(0, 0);
        x.owes(0, 1, 0);
        x.owes(0, 1, 0);
        x.owes(0, 1, 0);
        for (int i = 0; i < 4; i++) {
            x.turn(0, 1);
        }
        x.type(0, 5);
        int[] counts = {3, 8, 9, 1, 2, 3, 4, 5};
        for (int what = 0; what < counts.length; what++) {
            expect.due("count(" + what + ")", x.count(what), counts[what]);
        }
        for (int bad : new int[] {-1, 8, Integer.MIN_VALUE, Integer.MAX_VALUE}) {
            expect.due("count(" + bad + ")", x.count(bad), BAD);
        }
    }
}
