import java.util.function.Supplier;
import java.util.function.ToLongFunction;

/** "Refused, and nothing changes, the first of these: BAD, STATE, FULL", and the calls that only tell: of each promise. */
final class RefusedTest {
    private static final int NO = HouseHours.NO;
    private static final int BAD = HouseHours.BAD;
    private static final int STATE = HouseHours.STATE;
    private static final int FULL = HouseHours.FULL;
    private static final Expect expect = new Expect("RefusedTest");

    public static void main(String[] args) {
        onNewObject();
        onEmptyTown();
        onFullTown();
        tellsAlone(RefusedTest::emptyTown);
        tellsAlone(RefusedTest::fullTown);
        expect.end();
    }

    private static HouseHours emptyTown() {
        HouseHours x = Expect.townOf("house 5 2 3;leap 0 4 4;house 7 1 1;walk 6;");
        Expect.typeAll(x, "house 9 9 9;");
        return x;
    }

    /** Two ERRANDS that can be done and two that can't would hide what is changed: all four can be. */
    private static HouseHours fullTown() {
        HouseHours x = Expect.townOf("house 5 2 3;leap 0 4 4;leap 0 9 1;house 7 1 1;walk 6;");
        x.keep(0);
        x.mark(3, 0);
        x.turn(0, 7);
        x.turn(1, 9);
        x.go(30);
        x.keep(1);
        for (int i = 0; i < 11; i++) {
            x.turn(i % 2, 5);
        }
        x.go(10);
        for (int i = 0; i < 4; i++) {
            x.errand(i % 2, 10 * i, 10 * i + 20 & 31, i);
        }
        for (int i = 0; i < 8; i++) {
            x.saw(i, x.shows(1, i));
            x.owes(i % 2, 1 - i % 2, 5 * i);
        }
        Expect.typeAll(x, "house 9 9 9;walk 3;" + " ".repeat(281));
        return x;
    }

    private static void refused(int promise, String call, Supplier<HouseHours> made, ToLongFunction<HouseHours> asked,
            int want) {
        HouseHours x = made.get();
        expect.says(promise, call + " is refused, and nothing changes");
        expect.due(call, asked.applyAsLong(x), want);
        expect.alike("all there is behind " + call, Look.at(x), Look.at(made.get()));
    }

    private static void onNewObject() {
        Supplier<HouseHours> none = HouseHours::new;
        refused(2, "type(0, 9)", none, x -> x.type(0, 9), BAD);
        refused(5, "house(0, 0)", none, x -> x.house(0, 0), BAD);
        refused(6, "shows(0, 0)", none, x -> x.shows(0, 0), BAD);
        refused(7, "first(0, 0, 0)", none, x -> x.first(0, 0, 0), BAD);
        refused(8, "many(0, -1)", none, x -> x.many(0, -1), BAD);
        refused(9, "there(0, 0, 0)", none, x -> x.there(0, 0, 0), BAD);
        refused(10, "early(0, 1, 0)", none, x -> x.early(0, 1, 0), BAD);
        refused(11, "go(0)", none, x -> x.go(0), BAD);
        refused(12, "turn(0, 1)", none, x -> x.turn(0, 1), BAD);
        refused(13, "undo()", none, HouseHours::undo, STATE);
        refused(14, "errand(0, 0, 0, 0)", none, x -> x.errand(0, 0, 0, 0), BAD);
        refused(16, "soonest(0, -1)", none, x -> x.soonest(0, -1), BAD);
        refused(17, "party(48)", none, x -> x.party(48), BAD);
        refused(18, "treaty(0, 1, 0)", none, x -> x.treaty(0, 1, 0), BAD);
        refused(19, "saw(96, 0)", none, x -> x.saw(96, 0), BAD);
        refused(21, "whose(3)", none, x -> x.whose(3), BAD);
        refused(22, "aged(0, 0, 0)", none, x -> x.aged(0, 0, 0), BAD);
        refused(23, "owes(0, 1, 0)", none, x -> x.owes(0, 1, 0), BAD);
        refused(24, "due(0)", none, x -> x.due(0), BAD);
        refused(25, "mark(0, 0)", none, x -> x.mark(0, 0), NO);
        refused(26, "keep(2)", none, x -> x.keep(2), BAD);
        refused(27, "back(0)", none, x -> x.back(0), STATE);
        refused(28, "count(8)", none, x -> x.count(8), BAD);
    }

    private static void onEmptyTown() {
        Supplier<HouseHours> made = RefusedTest::emptyTown;
        refused(2, "type(0, 0)", made, x -> x.type(0, 0), BAD);
        refused(11, "go(96)", made, x -> x.go(96), BAD);
        refused(12, "turn(1, 0)", made, x -> x.turn(1, 0), BAD);
        refused(12, "turn(1, 48)", made, x -> x.turn(1, 48), BAD);
        refused(12, "turn(2, 1)", made, x -> x.turn(2, 1), BAD);
        refused(13, "undo()", made, HouseHours::undo, STATE);
        refused(14, "errand(2, 0, 47, 0)", made, x -> x.errand(2, 0, 47, 0), BAD);
        refused(14, "errand(1, 0, 48, 0)", made, x -> x.errand(1, 0, 48, 0), BAD);
        refused(14, "errand(1, 48, 0, 0)", made, x -> x.errand(1, 48, 0, 0), BAD);
        refused(14, "errand(1, 0, 47, 10)", made, x -> x.errand(1, 0, 47, 10), BAD);
        refused(19, "saw(-1, 0)", made, x -> x.saw(-1, 0), BAD);
        refused(19, "saw(0, 48)", made, x -> x.saw(0, 48), BAD);
        refused(23, "owes(1, 1, 0)", made, x -> x.owes(1, 1, 0), BAD);
        refused(23, "owes(0, 2, 0)", made, x -> x.owes(0, 2, 0), BAD);
        refused(23, "owes(0, 1, 48)", made, x -> x.owes(0, 1, 48), BAD);
        refused(25, "mark(6, 0)", made, x -> x.mark(6, 0), NO);
        refused(25, "mark(5, 2)", made, x -> x.mark(5, 2), NO);
        refused(26, "keep(-1)", made, x -> x.keep(-1), BAD);
        refused(27, "back(0)", made, x -> x.back(0), STATE);
        refused(27, "back(1)", made, x -> x.back(1), STATE);
        refused(27, "back(2)", made, x -> x.back(2), BAD);
    }

    private static void onFullTown() {
        Supplier<HouseHours> made = RefusedTest::fullTown;
        refused(2, "type(0, 1)", made, x -> x.type(0, 1), FULL);
        refused(2, "type(0, 9)", made, x -> x.type(0, 9), BAD);
        refused(11, "go(56)", made, x -> x.go(56), STATE);
        refused(11, "go(95)", made, x -> x.go(95), STATE);
        refused(11, "go(96)", made, x -> x.go(96), BAD);
        refused(11, "go(0)", made, x -> x.go(0), BAD);
        refused(11, "go(-1)", made, x -> x.go(-1), BAD);
        refused(12, "turn(0, 48)", made, x -> x.turn(0, 48), BAD);
        refused(14, "errand(0, 0, 47, 0)", made, x -> x.errand(0, 0, 47, 0), FULL);
        refused(14, "errand(0, 0, 47, 10)", made, x -> x.errand(0, 0, 47, 10), BAD);
        refused(19, "saw(0, 0)", made, x -> x.saw(0, 0), FULL);
        refused(19, "saw(0, -1)", made, x -> x.saw(0, -1), BAD);
        refused(23, "owes(0, 1, 0)", made, x -> x.owes(0, 1, 0), FULL);
        refused(23, "owes(0, 0, 0)", made, x -> x.owes(0, 0, 0), BAD);
        refused(25, "mark(-1, 0)", made, x -> x.mark(-1, 0), NO);
        refused(25, "mark(3, 2)", made, x -> x.mark(3, 2), NO);
        refused(26, "keep(2)", made, x -> x.keep(2), BAD);
        refused(27, "back(2)", made, x -> x.back(2), BAD);
        refused(27, "back(-1)", made, x -> x.back(-1), BAD);
    }

    private static void tells(int promise, String call, Supplier<HouseHours> made, ToLongFunction<HouseHours> asked) {
        HouseHours x = made.get();
        expect.says(promise, call + " only tells: nothing changes, and asked again it answers the same");
        long answer = asked.applyAsLong(x);
        expect.due(call + " again", asked.applyAsLong(x), answer);
        expect.alike("all there is behind " + call, Look.at(x), Look.at(made.get()));
    }

    private static void tellsAlone(Supplier<HouseHours> made) {
        tells(5, "house(1, 4)", made, x -> x.house(1, 4));
        tells(6, "shows(0, 95)", made, x -> x.shows(0, 95));
        tells(7, "first(0, 12, 5)", made, x -> x.first(0, 12, 5));
        tells(8, "many(1, 3)", made, x -> x.many(1, 3));
        tells(8, "many(0, -1)", made, x -> x.many(0, -1));
        tells(9, "there(0, 20, 1)", made, x -> x.there(0, 20, 1));
        tells(10, "early(0, 1, 0)", made, x -> x.early(0, 1, 0));
        tells(10, "early(1, 0, 1)", made, x -> x.early(1, 0, 1));
        tells(16, "soonest(0, -1)", made, x -> x.soonest(0, -1));
        tells(16, "soonest(1, 3)", made, x -> x.soonest(1, 3));
        tells(17, "party(9)", made, x -> x.party(9));
        tells(17, "party(-1)", made, x -> x.party(-1));
        tells(18, "treaty(0, 1, 0)", made, x -> x.treaty(0, 1, 0));
        tells(18, "treaty(1, 0, 1)", made, x -> x.treaty(1, 0, 1));
        tells(21, "whose(0)", made, x -> x.whose(0));
        tells(21, "whose(2)", made, x -> x.whose(2));
        tells(22, "aged(1, 5, 90)", made, x -> x.aged(1, 5, 90));
        tells(22, "aged(-1, 5, 90)", made, x -> x.aged(-1, 5, 90));
        tells(24, "due(-1)", made, x -> x.due(-1));
        tells(28, "count(7)", made, x -> x.count(7));
        tells(29, "trace()", made, HouseHours::trace);
    }
}
