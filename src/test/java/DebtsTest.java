/** Promises 19 to 24: saw, forget, whose, aged, owes, due. */
final class DebtsTest {
    private static final int NONE = HouseHours.NONE;
    private static final int BAD = HouseHours.BAD;
    private static final int[] STRANGE = {-2, 96, 9600, Integer.MIN_VALUE, Integer.MAX_VALUE};
    private static final Expect expect = new Expect("DebtsTest");

    public static void main(String[] args) {
        sawAndForget();
        whose();
        looks();
        aged();
        refusesAges();
        owes();
        due();
        rings();
        ringsCeaseByTurns();
        expect.end();
    }

    private static void sawAndForget() {
        HouseHours x = new HouseHours();
        expect.due("forget()", x.forget(), 0);
        for (int i = 1; i <= 8; i++) {
            expect.due("saw(95, 47)", x.saw(95, 47), i);
        }
        expect.due("saw(0, 0)", x.saw(0, 0), HouseHours.FULL);
        expect.due("saw(96, 0), full", x.saw(96, 0), BAD);
        expect.due("SEEN", x.count(4), 8);
        expect.due("forget()", x.forget(), 8);
        expect.due("SEEN", x.count(4), 0);
        expect.due("saw(-1, 0)", x.saw(-1, 0), BAD);
        expect.due("saw(0, -1)", x.saw(0, -1), BAD);
        expect.due("saw(0, 48)", x.saw(0, 48), BAD);
        for (int strange : STRANGE) {
            expect.due("saw(" + strange + ", 0)", x.saw(strange, 0), BAD);
            expect.due("saw(0, " + strange + ")", x.saw(0, strange), BAD);
        }
        expect.due("saw(0, 0)", x.saw(0, 0), 1);
    }

    private static void whose() {
        HouseHours x = Expect.townOf("house 0 1 1;house 5 1 1;house 0 1 1;");
        whoseAre(x, 7, 0, 2);
        x.saw(3, 3);
        whoseAre(x, 5, 0, 1);
        x.saw(3, 8);
        whoseAre(x, 0, NONE, NONE);
        x.forget();
        x.saw(3, 8);
        whoseAre(x, 2, NONE, NONE);
        x.turn(0, 5);
        whoseAre(x, 3, 0, 1);
        whoseAre(new HouseHours(), 0, NONE, NONE);
        for (int bad : new int[] {-1, 3, Integer.MIN_VALUE, Integer.MAX_VALUE}) {
            expect.due("whose(" + bad + ")", x.whose(bad), BAD);
        }
        HouseHours full = Expect.townOf(
                "house 0 1 1;house 0 1 1;house 0 1 1;house 0 1 1;house 0 1 1;house 1 1 1;");
        whoseAre(full, 63, 0, 2);
        for (int t = 0; t < 8; t++) {
            full.saw(t, t + 1);
        }
        whoseAre(full, 32, NONE, NONE);
    }

    private static void whoseAre(HouseHours x, int bits, int look, int unlike) {
        expect.due("whose(0)", x.whose(0), bits);
        expect.due("whose(1)", x.whose(1), look);
        expect.due("whose(2)", x.whose(2), unlike);
    }

    private static void looks() {
        HouseHours x = Expect.townOf("house 0 1 1;house 0 2 1;house 0 3 1;house 46 4 1;");
        // At 1: 1, 2, 3 and 2; at 2: 2, 4, 6 and 6; at 3: 3, 6, 9 and 10.
        whoseAre(x, 15, 3, 4);
        x.saw(0, 0);
        whoseAre(x, 7, 1, 3);
        x.saw(24, 24);
        whoseAre(x, 5, 1, 2);
        HouseHours late = Expect.townOf("house 0 1 1;house 0 1 1;leap 1 95 1;");
        whoseAre(late, 3, 95, 2);
    }

    private static void aged() {
        HouseHours x = Expect.townOf("house 9 1 9;house 0 3 2;leap 1 1 9;house 5 1 1;house 7 3 2;");
        expect.due("aged(1, 0, 1)", x.aged(1, 0, 1), 1);
        expect.due("aged(1, 1, 2)", x.aged(1, 1, 2), 2);
        expect.due("aged(1, 0, 95)", x.aged(1, 0, 95), 142);
        expect.due("aged(2, 7, 95)", x.aged(2, 7, 95), 88);
        expect.due("aged(0, 8, 9)", x.aged(0, 8, 9), 1);
        expect.due("aged(0, 9, 17)", x.aged(0, 9, 17), 0);
        expect.due("aged(0, 4, 4)", x.aged(0, 4, 4), 0);
        expect.due("aged(-1, 0, 95)", x.aged(-1, 0, 95), 1);
        expect.due("aged(-1, 8, 9)", x.aged(-1, 8, 9), 0);
        expect.due("aged(-1, 0, 1)", x.aged(-1, 0, 1), 1);
        expect.due("aged(-1, 95, 95)", x.aged(-1, 95, 95), 0);
        x.turn(1, 40);
        expect.due("aged(1, 0, 95), turned", x.aged(1, 0, 95), 142);
        expect.due("aged(-1, 0, 95), no HOUSES", new HouseHours().aged(-1, 0, 95), NONE);
    }

    private static void refusesAges() {
        HouseHours x = Expect.townOf("house 9 1 9;");
        expect.due("aged(0, 5, 4)", x.aged(0, 5, 4), BAD);
        expect.due("aged(-1, 5, 4)", x.aged(-1, 5, 4), BAD);
        expect.due("aged(1, 0, 0)", x.aged(1, 0, 0), BAD);
        expect.due("aged(0, -1, 0)", x.aged(0, -1, 0), BAD);
        expect.due("aged(0, 0, 96)", x.aged(0, 0, 96), BAD);
        expect.due("aged(-1, 0, 96)", x.aged(-1, 0, 96), BAD);
        expect.due("aged(-1, 0, 96), no HOUSES", new HouseHours().aged(-1, 0, 96), BAD);
        for (int strange : STRANGE) {
            expect.due("aged(" + strange + ", 0, 1)", x.aged(strange, 0, 1), BAD);
            expect.due("aged(0, " + strange + ", 95)", x.aged(0, strange, 95), BAD);
            expect.due("aged(0, 0, " + strange + ")", x.aged(0, 0, strange), BAD);
        }
    }

    private static void owes() {
        HouseHours x = Expect.townOf("house 0 1 1;house 5 1 1;");
        expect.due("owes(0, 0, 0)", x.owes(0, 0, 0), BAD);
        expect.due("owes(0, 2, 0)", x.owes(0, 2, 0), BAD);
        expect.due("owes(2, 0, 0)", x.owes(2, 0, 0), BAD);
        expect.due("owes(0, 1, 48)", x.owes(0, 1, 48), BAD);
        expect.due("owes(0, 1, -1)", x.owes(0, 1, -1), BAD);
        for (int strange : STRANGE) {
            expect.due("owes(" + strange + ", 0, 0)", x.owes(strange, 0, 0), BAD);
            expect.due("owes(0, " + strange + ", 0)", x.owes(0, strange, 0), BAD);
            expect.due("owes(0, 1, " + strange + ")", x.owes(0, 1, strange), BAD);
        }
        for (int k = 0; k < 8; k++) {
            expect.due("owes(0, 1, " + k + ")", x.owes(0, 1, k), k);
        }
        expect.due("owes(0, 1, 9)", x.owes(0, 1, 9), HouseHours.FULL);
        expect.due("owes(0, 1, 48), full", x.owes(0, 1, 48), BAD);
        expect.due("DEBTS", x.count(5), 8);
        expect.due("due(7)", x.due(7), 2);
        expect.due("due(8)", x.due(8), BAD);
    }

    private static void due() {
        HouseHours x = Expect.townOf("house 0 1 1;house 5 1 9;");
        expect.due("due(-1)", x.due(-1), 0);
        expect.due("due(0)", x.due(0), BAD);
        x.owes(0, 1, 6);
        x.owes(1, 0, 6);
        x.owes(0, 1, 4);
        expect.due("due(0)", x.due(0), 9);
        expect.due("due(1)", x.due(1), 6);
        expect.due("due(2)", x.due(2), NONE);
        x.turn(1, 47);
        x.go(50);
        expect.due("due(0), turned", x.due(0), 18);
        expect.due("due(2), turned", x.due(2), 0);
        for (int bad : new int[] {-2, 3, 8, Integer.MIN_VALUE, Integer.MAX_VALUE}) {
            expect.due("due(" + bad + ")", x.due(bad), BAD);
        }
    }

    private static void rings() {
        ring("one", 0, 0, 1, 5);
        ring("there and back", 1, 0, 1, 5, 1, 0, 6);
        ring("back first", 1, 0, 1, 6, 1, 0, 5);
        ring("at once", 0, 0, 1, 5, 1, 0, 5);
        ring("never back", 0, 0, 1, 5, 1, 0, -1);
        ring("never there", 0, 0, 1, -1, 1, 0, 5);
        ring("neither ever", 0, 0, 1, -1, 1, 0, -1);
        ring("three in a row", 0, 0, 1, 5, 1, 2, 6, 2, 3, 7);
        ring("three round", 1, 0, 1, 5, 1, 2, 6, 2, 0, 7);
        ring("three round, begun at the second", 1, 0, 1, 5, 1, 2, 3, 2, 0, 4);
        ring("three round, falling", 0, 0, 1, 5, 1, 2, 3, 2, 0, 1);
        ring("three round, two at once", 0, 0, 1, 5, 1, 2, 5, 2, 0, 5);
        ring("three round behind another", 1, 3, 0, 1, 0, 1, 5, 1, 2, 6, 2, 0, 7);
        ring("the same two", 0, 0, 1, 5, 0, 1, 6, 1, 2, 7);
        ring("four round, told backwards", 1, 3, 0, 9, 2, 3, 8, 1, 2, 7, 0, 1, 6);
        ring("three round, the first told between", 1, 1, 2, 6, 0, 1, 5, 2, 0, 7);
        ring("six round", 1, 0, 1, 1, 1, 2, 2, 2, 3, 3, 3, 4, 4, 4, 5, 5, 5, 0, 6);
        ring("six round, one late", 0, 0, 1, 1, 1, 2, 2, 2, 3, 9, 3, 4, 4, 4, 5, 5, 5, 0, 6);
    }

    private static void ringsCeaseByTurns() {
        HouseHours x = Expect.townOf("house 0 1 1;house 0 1 1;");
        x.owes(0, 1, 5);
        x.owes(1, 0, 6);
        expect.due("due(-1)", x.due(-1), 1);
        x.turn(0, 1);
        expect.due("due(-1), at once", x.due(-1), 0);
        x.turn(0, 1);
        expect.due("due(-1), the other ahead", x.due(-1), 1);
        x.undo();
        expect.due("due(-1), at once", x.due(-1), 0);
        x.town();
        expect.due("due(-1), no HOUSES", x.due(-1), 0);
    }

    /** DEBTS in threes: debtor, creditor and the QUARTER at which it is due; -1: never. */
    private static void ring(String name, int want, int... debts) {
        HouseHours x = Expect.townOf(
                "house 0 1 3;house 0 1 3;house 0 1 3;house 0 1 3;house 0 1 3;house 0 1 3;");
        for (int i = 0; i < debts.length; i += 3) {
            x.owes(debts[i], debts[i + 1], debts[i + 2] < 0 ? 47 : debts[i + 2]);
        }
        expect.due("due(-1), " + name, x.due(-1), want);
    }
}
