import static java.lang.Integer.MAX_VALUE;
import static java.lang.Integer.MIN_VALUE;

/** The boundaries of promises 25 to 29, sentence by sentence: mark, keep, back, count, trace. */
final class KindBoundariesTest {
    private static final int NO = HouseHours.NO;
    private static final int BAD = HouseHours.BAD;
    private static final int STATE = HouseHours.STATE;
    private static final int[] NO_HOUSES = {-1, 2, 6, MIN_VALUE, MAX_VALUE};
    private static final int[] NO_IMAGES = {-1, 2, 3, MIN_VALUE, MAX_VALUE};
    private static final Expect expect = new Expect("KindBoundariesTest");

    public static void main(String[] args) {
        promise25Kinds();
        promise25BelowNought();
        promise25No();
        promise26Keep();
        promise26KeepAgain();
        promise26Bad();
        promise27Back();
        promise27UndoneToo();
        promise27NothingElse();
        promise27State();
        promise28Count();
        promise28Bad();
        promise29Trace();
        promise29TraceStays();
        expect.end();
    }

    private static void marks(HouseHours x, int h, int... want) {
        for (int kind = 0; kind < want.length; kind++) {
            expect.due("mark(" + kind + ", " + h + ")", x.mark(kind, h), want[kind]);
        }
    }

    private static void promise25Kinds() {
        expect.says(25, "0 HOUSE, 1 INN, 2 MILL, 3 PALACE (under INN), 4 TOLL (under MILL), 5 CHURCH; no LEAPS, NOW 0");
        HouseHours x = Expect.townOf("house 20 3 7;house 40 9 1;leap 1 0 1;leap 1 94 2;");
        marks(x, 0, 20, 20, 17, 40, 24, 20);
        expect.says(25, "INN up, and how many LEAPS it has, those that have not begun, too");
        marks(x, 1, 41, 43, 32, 86, 33, 41);
        expect.says(25, "HOUSE what it SHOWS NOW; CHURCH up, and NOW");
        x.go(95);
        marks(x, 0, 60 - 48, 12, 9, 24, 16, 107);
        marks(x, 1, (40 + 855 + 3) % 48, 36, 25, 72, 26, 129);
        expect.says(25, "HOUSE what it SHOWS NOW: TURNS");
        x.turn(0, 35);
        marks(x, 0, 47, 47, 44, 94, 51, 142);
        x.turn(0, 1);
        marks(x, 0, 0, 0, -3, 0, 4, 95);
    }

    private static void promise25BelowNought() {
        expect.says(25, "NO: what none is, where a number may be below 0");
        HouseHours x = Expect.townOf("house 0 9 1;house 0 1 9;");
        marks(x, 0, 0, 0, -9, 0, -8, 0);
        marks(x, 1, 0, 0, -1, 0, 8, 0);
        expect.due("mark(2, 1) is no BAD", x.mark(2, 1), -1);
    }

    private static void promise25No() {
        HouseHours x = Expect.townOf("house 5 1 1;house 5 1 1;");
        expect.says(25, "NO: BAD: no such KIND");
        for (int kind : new int[] {-1, 6, 7, MIN_VALUE, MAX_VALUE}) {
            expect.due("mark(" + kind + ", 0)", x.mark(kind, 0), NO);
        }
        expect.says(25, "NO: BAD: no such HOUSE");
        for (int h : NO_HOUSES) {
            for (int kind = 0; kind < 6; kind++) {
                expect.due("mark(" + kind + ", " + h + ")", x.mark(kind, h), NO);
            }
        }
        HouseHours none = new HouseHours();
        for (int kind = 0; kind < 6; kind++) {
            expect.due("mark(" + kind + ", 0), no HOUSES", none.mark(kind, 0), NO);
        }
        expect.says(25, "refused, and nothing changes: no body was asked");
        expect.due("trace()", x.trace(), 0);
        expect.due("trace()", none.trace(), 0);
    }

    private static void promise26Keep() {
        expect.says(26, "An IMAGE is kept: the QUARTER");
        HouseHours x = Expect.townOf("house 0 1 1;house 9 1 1;");
        expect.due("keep(0) at 0", x.keep(0), 0);
        x.go(95);
        expect.due("keep(1) at 95", x.keep(1), 95);
        expect.says(26, "nothing changes by it");
        expect.due("NOW", x.count(2), 95);
        expect.says(26, "each IMAGE is kept for itself");
        expect.due("back(0)", x.back(0), 0);
        expect.due("back(1)", x.back(1), 95);
        expect.says(26, "of a new object, too");
        HouseHours none = new HouseHours();
        expect.due("keep(1)", none.keep(1), 0);
        none.go(3);
        expect.due("back(1)", none.back(1), 0);
    }

    private static void promise26KeepAgain() {
        expect.says(26, "kept again, the IMAGE is the later one");
        HouseHours x = Expect.townOf("house 0 1 1;house 9 1 1;");
        x.turn(0, 3);
        x.keep(0);
        x.go(7);
        x.undo();
        x.turn(1, 4);
        expect.due("keep(0)", x.keep(0), 7);
        x.go(1);
        x.turn(1, 4);
        expect.due("back(0)", x.back(0), 7);
        expect.due("TURNS of 0", x.house(0, 4), 0);
        expect.due("TURNS of 1", x.house(1, 4), 4);
        expect.due("undo()", x.undo(), 1);
        expect.due("undo()", x.undo(), STATE);
        expect.says(26, "one IMAGE becomes the other's by back() and keep()");
        x.back(0);
        expect.due("keep(1)", x.keep(1), 7);
        x.turn(0, 1);
        expect.due("back(1)", x.back(1), 7);
        expect.due("TURNS of 0", x.house(0, 4), 0);
        expect.due("TURNS of 1", x.house(1, 4), 4);
    }

    private static void promise26Bad() {
        expect.says(26, "IMAGES 0, 1: BAD");
        HouseHours x = Expect.townOf("house 0 1 1;");
        for (int image : NO_IMAGES) {
            expect.due("keep(" + image + ")", x.keep(image), BAD);
        }
        expect.due("back(0)", x.back(0), STATE);
        expect.due("back(1)", x.back(1), STATE);
    }

    private static void promise27Back() {
        expect.says(27, "All of that becomes as an IMAGE has it: the QUARTER; and it stays as it is, whatever follows");
        HouseHours x = Expect.townOf("house 0 1 1;house 9 1 1;");
        x.go(40);
        x.turn(0, 5);
        x.turn(1, 47);
        x.keep(0);
        x.go(55);
        x.turn(0, 6);
        x.undo();
        x.undo();
        x.undo();
        x.turn(1, 9);
        for (int times = 0; times < 3; times++) {
            expect.due("back(0)", x.back(0), 40);
            expect.due("NOW", x.count(2), 40);
            expect.due("TURNS of 0", x.house(0, 4), 5);
            expect.due("TURNS of 1", x.house(1, 4), 47);
            expect.due("TURNS known", x.count(6), 2);
            expect.due("shows(1, 0)", x.shows(1, 0), 8);
            x.go(10 + times);
            x.turn(times % 2, 11);
        }
        expect.says(27, "back to a day not so late, and on");
        x.back(0);
        expect.due("go(55)", x.go(55), 95);
    }

    private static void promise27UndoneToo() {
        expect.says(27, "what may be UNDONE, ten of them, though ten others came");
        HouseHours x = Expect.townOf("house 0 1 1;house 9 1 1;");
        for (int i = 0; i < 11; i++) {
            x.turn(i % 2, 1 + i);
        }
        x.keep(1);
        for (int i = 0; i < 10; i++) {
            x.turn(1, 30);
        }
        x.back(1);
        expect.due("TURNS known", x.count(6), 10);
        for (int i = 10; i >= 1; i--) {
            expect.due("undo()", x.undo(), i % 2);
        }
        expect.due("undo()", x.undo(), STATE);
        expect.due("TURNS of 0", x.house(0, 4), 1);
        expect.due("TURNS of 1", x.house(1, 4), 0);
        expect.says(27, "what may be UNDONE: none, as it was");
        HouseHours y = Expect.townOf("house 0 1 1;");
        y.keep(0);
        y.turn(0, 1);
        y.back(0);
        expect.due("undo()", y.undo(), STATE);
        expect.due("TURNS of 0", y.house(0, 4), 0);
    }

    private static void promise27NothingElse() {
        expect.says(27, "IMAGES keep nothing else: ERRANDS, SEEN, DEBTS, THE TEXT, THE TRACE");
        HouseHours x = Expect.townOf("house 0 1 1;house 9 1 1;walk 3;");
        x.keep(0);
        x.errand(1, 20, 20, 0);
        x.owes(0, 1, 11);
        x.saw(5, 5);
        x.type(0x3B, 1);
        x.mark(1, 0);
        x.back(0);
        int[] counts = {2, 3, 0, 1, 1, 1, 0, 1};
        for (int what = 0; what < counts.length; what++) {
            expect.due("count(" + what + ")", x.count(what), counts[what]);
        }
        expect.due("soonest(0, -1)", x.soonest(0, -1), 11);
        expect.due("due(0)", x.due(0), 2);
        expect.due("whose(0)", x.whose(0), 1);
        expect.due("trace()", x.trace(), 11);
        expect.says(27, "IMAGES keep nothing else: what is gone stays gone");
        x.keep(1);
        x.rests();
        x.forget();
        x.clear();
        x.back(1);
        expect.due("count(3)", x.count(3), 0);
        expect.due("count(4)", x.count(4), 0);
        expect.due("count(7)", x.count(7), 0);
        expect.says(27, "IMAGES are no part of IMAGES");
        x.back(0);
        expect.due("back(1)", x.back(1), 0);
    }

    private static void promise27State() {
        expect.says(27, "STATE: none was kept");
        HouseHours x = Expect.townOf("house 0 1 1;");
        expect.due("back(0)", x.back(0), STATE);
        x.keep(1);
        expect.due("back(0)", x.back(0), STATE);
        expect.due("back(1)", x.back(1), 0);
        expect.says(27, "BAD ahead of STATE");
        for (int image : NO_IMAGES) {
            expect.due("back(" + image + ")", x.back(image), BAD);
            expect.due("back(" + image + ") of a new object", new HouseHours().back(image), BAD);
        }
        expect.says(27, "STATE: read anew, the IMAGES are gone; not so by a FAULT");
        x.go(4);
        x.keep(0);
        x.type('x', 1);
        x.town();
        expect.due("back(0)", x.back(0), 4);
        expect.due("back(1)", x.back(1), 0);
        x.clear();
        x.town();
        expect.due("back(0)", x.back(0), STATE);
        expect.due("back(1)", x.back(1), STATE);
    }

    private static void promise28Count() {
        expect.says(28, "0 HOUSES, 1 WALK, 2 NOW, 3 ERRANDS, 4 SEEN, 5 DEBTS, 6 TURNS that may be UNDONE, 7 bytes: none");
        HouseHours x = Expect.townOf("walk 0;");
        counts(x, 0, 0, 0, 0, 0, 0, 0, 0);
        expect.says(28, "as many as there may be of all");
        HouseHours full = Expect.townOf("house 0 1 1;".repeat(6) + "walk 9;");
        full.go(95);
        for (int i = 0; i < 20; i++) {
            full.errand(5, 0, 0, 0);
            full.saw(0, 0);
            full.owes(5, 4, 0);
            full.turn(5, 1);
        }
        Expect.typeAll(full, ";".repeat(300));
        counts(full, 6, 9, 95, 4, 8, 8, 10, 300);
        expect.says(28, "none of them is another one's");
        HouseHours mixed = Expect.townOf("house 0 1 1;house 0 1 1;walk 7;");
        mixed.go(11);
        mixed.errand(1, 0, 0, 0);
        for (int i = 0; i < 3; i++) {
            mixed.saw(0, 0);
            mixed.turn(0, 1);
            mixed.owes(0, 1, 0);
        }
        mixed.saw(0, 0);
        mixed.turn(0, 1);
        mixed.turn(0, 1);
        mixed.type(0, 6);
        counts(mixed, 2, 7, 11, 1, 4, 3, 5, 6);
        mixed.undo();
        mixed.rests();
        mixed.forget();
        mixed.clear();
        counts(mixed, 2, 7, 11, 0, 0, 3, 4, 0);
    }

    private static void counts(HouseHours x, int... want) {
        for (int what = 0; what < want.length; what++) {
            expect.due("count(" + what + ")", x.count(what), want[what]);
        }
    }

    private static void promise28Bad() {
        expect.says(28, "BAD");
        HouseHours x = Expect.townOf("house 0 1 1;");
        for (int what : new int[] {-1, 8, 9, MIN_VALUE, MAX_VALUE}) {
            expect.due("count(" + what + ")", x.count(what), BAD);
        }
    }

    private static void promise29Trace() {
        long[] asked = {1, 11, 101, 1011, 10101, 100001};
        for (int kind = 0; kind < 6; kind++) {
            expect.says(29, "as often as mark() asks that body (up: what the KIND above does, asked once): KIND " + kind);
            HouseHours x = Expect.townOf("house 0 1 1;leap 0 0 1;leap 0 0 1;");
            for (int times = 1; times <= 3; times++) {
                x.mark(kind, 0);
                expect.due("trace()", x.trace(), times * asked[kind]);
            }
        }
        expect.says(29, "of all calls ever, together");
        HouseHours x = Expect.townOf("house 0 1 1;house 1 1 1;");
        long all = 0;
        for (int kind = 5; kind >= 0; kind--) {
            x.mark(kind, kind % 2);
            all += asked[kind];
            expect.due("trace()", x.trace(), all);
        }
        expect.says(29, "asked, THE TRACE does not change");
        expect.due("trace()", x.trace(), all);
        expect.says(29, "by mark() alone: no other call asks a body");
        for (int h = 0; h < 2; h++) {
            x.shows(h, 0);
            x.turn(h, 1);
            x.first(h, 0, 0);
            x.count(h);
        }
        expect.due("trace()", x.trace(), all);
        x.mark(6, 0);
        x.mark(0, 2);
        expect.due("trace() after refused ones", x.trace(), all);
    }

    private static void promise29TraceStays() {
        expect.says(29, "THE TRACE stays: by town(), by back(), by clear(), by undo()");
        HouseHours x = Expect.townOf("house 0 1 1;");
        x.keep(0);
        x.turn(0, 1);
        x.mark(3, 0);
        x.back(0);
        expect.due("trace() after back()", x.trace(), 1011);
        x.turn(0, 1);
        x.undo();
        expect.due("trace() after undo()", x.trace(), 1011);
        x.type('x', 1);
        x.town();
        expect.due("trace() after a FAULT", x.trace(), 1011);
        x.clear();
        x.town();
        expect.due("trace() after town()", x.trace(), 1011);
        expect.due("mark(0, 0), no HOUSES", x.mark(0, 0), NO);
        Expect.typeAll(x, "house 3 1 1;");
        x.town();
        x.mark(4, 0);
        expect.due("trace() of both towns", x.trace(), 11112);
    }
}
