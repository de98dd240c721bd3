import static java.lang.Integer.MAX_VALUE;
import static java.lang.Integer.MIN_VALUE;

/** The boundaries of promises 19 to 24, sentence by sentence: saw, forget, whose, aged, owes, due. */
final class DebtBoundariesTest {
    private static final int NONE = HouseHours.NONE;
    private static final int BAD = HouseHours.BAD;
    private static final int FULL = HouseHours.FULL;
    private static final int[] NO_HOUSES = {-1, 2, 6, MIN_VALUE, MAX_VALUE};
    private static final int[] NO_NUMBERS = {-1, 48, 95, MIN_VALUE, MAX_VALUE};
    private static final int[] NO_QUARTERS = {-1, 96, 97, MIN_VALUE, MAX_VALUE};
    private static final int NEVER = -1;
    private static final Expect expect = new Expect("DebtBoundariesTest");

    public static void main(String[] args) {
        promise19EightAtMost();
        promise19Bad();
        promise20Forget();
        promise21Whose();
        promise21WhoseChanges();
        promise21Look();
        promise21FewerThanTwo();
        promise21Bad();
        promise22Aged();
        promise22Eldest();
        promise22Bad();
        promise23EightAtMost();
        promise23Bad();
        promise24Due();
        promise24RingsOfTwo();
        promise24RingsOfMore();
        promise24RingChanges();
        promise24Bad();
        expect.end();
    }

    private static void promise19EightAtMost() {
        HouseHours x = Expect.townOf("house 0 1 1;house 5 1 1;");
        expect.says(19, "SEEN (8 at most): how much there is");
        for (int i = 1; i <= 8; i++) {
            expect.due("saw(" + i + ", " + i + ")", x.saw(i, i), i);
            expect.due("count(4)", x.count(4), i);
        }
        expect.says(19, "FULL");
        expect.due("saw(0, 5)", x.saw(0, 5), FULL);
        expect.due("saw(1, 1), seen already", x.saw(1, 1), FULL);
        expect.due("count(4)", x.count(4), 8);
        expect.due("whose(0)", x.whose(0), 1);
        expect.says(19, "BAD ahead of FULL");
        expect.due("saw(96, 0)", x.saw(96, 0), BAD);
        expect.due("saw(0, 48)", x.saw(0, 48), BAD);
        expect.says(19, "the same SEEN again is one more");
        HouseHours same = new HouseHours();
        expect.due("saw(95, 47)", same.saw(95, 47), 1);
        expect.due("saw(95, 47)", same.saw(95, 47), 2);
    }

    private static void promise19Bad() {
        HouseHours x = Expect.townOf("house 0 1 1;");
        expect.says(19, "BAD: no such QUARTER");
        for (int t : NO_QUARTERS) {
            expect.due("saw(" + t + ", 0)", x.saw(t, 0), BAD);
        }
        expect.says(19, "BAD: no such number");
        for (int number : NO_NUMBERS) {
            expect.due("saw(0, " + number + ")", x.saw(0, number), BAD);
        }
        expect.due("count(4)", x.count(4), 0);
        expect.says(19, "least and most of all that may be SEEN");
        expect.due("saw(0, 0)", x.saw(0, 0), 1);
        expect.due("saw(95, 47)", x.saw(95, 47), 2);
        expect.due("whose(0)", x.whose(0), 1);
    }

    private static void promise20Forget() {
        HouseHours x = Expect.townOf("house 0 1 1;");
        expect.says(20, "how much there was");
        expect.due("forget() of nothing", x.forget(), 0);
        for (int n = 1; n <= 8; n++) {
            for (int i = 0; i < n; i++) {
                x.saw(0, 1);
            }
            expect.due("whose(0)", x.whose(0), 0);
            expect.due("forget()", x.forget(), n);
            expect.due("forget() again", x.forget(), 0);
        }
        expect.says(20, "Nothing was SEEN");
        expect.due("count(4)", x.count(4), 0);
        expect.due("whose(0)", x.whose(0), 1);
        expect.says(20, "and as much as ever may be SEEN then");
        for (int i = 1; i <= 8; i++) {
            expect.due("saw(0, 0)", x.saw(0, 0), i);
        }
        expect.due("whose(0)", x.whose(0), 1);
    }

    private static void whose(HouseHours x, int bits, int look, int unlike) {
        expect.due("whose(0)", x.whose(0), bits);
        expect.due("whose(1)", x.whose(1), look);
        expect.due("whose(2)", x.whose(2), unlike);
    }

    private static void promise21Whose() {
        for (int n = 0; n <= 6; n++) {
            expect.says(21, "HOUSES (bits) that SHOW all that: nothing SEEN, HOUSES " + n);
            expect.due("whose(0)", Expect.townOf("house 0 1 1;".repeat(n)).whose(0), (1 << n) - 1);
        }
        expect.says(21, "HOUSES (bits) that SHOW all that: at the first and the last QUARTER");
        HouseHours x = Expect.townOf("house 0 1 1;house 0 1 1;leap 1 95 1;house 47 1 1;leap 2 1 1;");
        x.saw(0, 0);
        expect.due("whose(0)", x.whose(0), 3);
        x.saw(95, 47);
        expect.due("whose(0)", x.whose(0), 1);
        x.forget();
        x.saw(95, 47);
        expect.due("whose(0)", x.whose(0), 5);
        x.saw(0, 47);
        expect.due("whose(0)", x.whose(0), 4);
        expect.says(21, "all that, not some of it");
        for (int t = 1; t <= 5; t++) {
            x.saw(t, t);
            expect.due("whose(0)", x.whose(0), 4);
        }
        x.saw(6, 7);
        expect.due("whose(0), the eighth one does not fit", x.whose(0), 0);
        expect.says(21, "two numbers at one QUARTER: none");
        x.forget();
        x.saw(3, 3);
        x.saw(3, 4);
        expect.due("whose(0)", x.whose(0), 0);
    }

    private static void promise21WhoseChanges() {
        expect.says(21, "that SHOW all that: TURNS change it");
        HouseHours x = Expect.townOf("house 0 1 1;house 5 1 1;");
        x.saw(10, 12);
        whose(x, 0, NONE, NONE);
        x.turn(0, 2);
        whose(x, 1, NONE, NONE);
        x.turn(1, 45);
        whose(x, 3, 0, 1);
        x.undo();
        whose(x, 1, NONE, NONE);
        expect.says(21, "SEEN at a QUARTER, whatever NOW is");
        x.go(95);
        whose(x, 1, NONE, NONE);
    }

    private static void promise21Look() {
        expect.says(21, "LOOK: of several the least");
        whose(Expect.townOf("house 0 1 1;house 1 1 1;"), 3, 0, 2);
        whose(Expect.townOf("house 0 1 1;house 0 1 1;"), 3, 0, 1);
        expect.says(21, "LOOK: at QUARTER 95 alone");
        whose(Expect.townOf("house 0 1 1;house 0 1 1;leap 1 95 1;"), 3, 95, 2);
        expect.says(21, "LOOK: most unlike numbers, not the first unlike ones");
        whose(Expect.townOf("house 0 1 1;house 0 1 1;leap 1 10 1;house 0 1 1;leap 2 20 2;"), 7, 20, 3);
        expect.says(21, "LOOK: unlike numbers, not HOUSES that differ from another");
        // At 10 two of each number, from 20 on three of one, two of one more: still two unlike.
        whose(Expect.townOf("house 0 1 1;house 0 1 1;house 0 1 1;leap 1 10 1;leap 2 20 1;"), 7, 10, 2);
        expect.says(21, "LOOK: six unlike numbers");
        whose(Expect.townOf("house 0 1 1;house 0 2 1;house 0 3 1;house 0 4 1;house 0 5 1;house 0 6 1;"), 63, 1, 6);
        expect.says(21, "LOOK: 0 and 47 are unlike");
        whose(Expect.townOf("house 47 1 1;house 0 1 1;"), 3, 0, 2);
        expect.says(21, "LOOK: at the HOUSES that could be alone");
        HouseHours x = Expect.townOf("house 0 1 1;house 30 1 1;house 0 1 1;leap 2 40 1;");
        x.saw(0, 0);
        whose(x, 5, 40, 2);
    }

    private static void promise21FewerThanTwo() {
        expect.says(21, "NONE: fewer than two could be");
        whose(new HouseHours(), 0, NONE, NONE);
        whose(Expect.townOf("house 0 1 1;"), 1, NONE, NONE);
        HouseHours x = Expect.townOf("house 0 1 1;house 1 1 1;house 2 1 1;house 3 1 1;house 4 1 1;house 5 1 1;");
        whose(x, 63, 0, 6);
        x.saw(0, 5);
        whose(x, 32, NONE, NONE);
        x.saw(0, 4);
        whose(x, 0, NONE, NONE);
    }

    private static void promise21Bad() {
        expect.says(21, "BAD: what = 0, 1, 2");
        HouseHours none = new HouseHours();
        HouseHours x = Expect.townOf("house 0 1 1;house 1 1 1;");
        for (int what : new int[] {-1, 3, MIN_VALUE, MAX_VALUE}) {
            expect.due("whose(" + what + ")", x.whose(what), BAD);
            expect.due("whose(" + what + "), no HOUSES", none.whose(what), BAD);
        }
    }

    private static void promise22Aged() {
        HouseHours x = Expect.townOf("house 0 1 9;house 47 9 1;leap 1 1 47;house 0 3 2;");
        expect.says(22, "QUARTERS times P by Q (cut) at b less that at a: each is cut");
        expect.due("aged(0, 8, 9)", x.aged(0, 8, 9), 1);
        expect.due("aged(0, 0, 8)", x.aged(0, 0, 8), 0);
        expect.due("aged(0, 9, 17)", x.aged(0, 9, 17), 0);
        expect.due("aged(2, 0, 1)", x.aged(2, 0, 1), 1);
        expect.due("aged(2, 1, 2)", x.aged(2, 1, 2), 2);
        expect.says(22, "of the whole day, past 48, too");
        expect.due("aged(0, 0, 95)", x.aged(0, 0, 95), 10);
        expect.due("aged(1, 0, 95)", x.aged(1, 0, 95), 855);
        expect.says(22, "no LEAPS");
        expect.due("aged(1, 0, 1)", x.aged(1, 0, 1), 9);
        expect.says(22, "no TURNS");
        x.turn(1, 40);
        expect.due("aged(1, 0, 1)", x.aged(1, 0, 1), 9);
        expect.due("aged(1, 94, 95)", x.aged(1, 94, 95), 9);
        expect.says(22, "from a QUARTER to the same one");
        for (int h = 0; h < 3; h++) {
            expect.due("aged(" + h + ", 0, 0)", x.aged(h, 0, 0), 0);
            expect.due("aged(" + h + ", 95, 95)", x.aged(h, 95, 95), 0);
        }
        expect.says(22, "whatever NOW is");
        x.go(95);
        expect.due("aged(1, 0, 95)", x.aged(1, 0, 95), 855);
    }

    private static void promise22Eldest() {
        expect.says(22, "ELDEST: the HOUSE that AGED most so");
        HouseHours x = Expect.townOf("house 0 1 1;leap 0 1 47;house 0 9 8;house 0 5 4;house 0 5 4;");
        expect.due("aged(-1, 0, 95)", x.aged(-1, 0, 95), 2);
        expect.due("aged(-1, 7, 8)", x.aged(-1, 7, 8), 1);
        expect.says(22, "ELDEST: of several the least");
        expect.due("aged(-1, 0, 1)", x.aged(-1, 0, 1), 0);
        expect.due("aged(-1, 3, 4)", x.aged(-1, 3, 4), 2);
        expect.due("aged(-1, 0, 0)", x.aged(-1, 0, 0), 0);
        expect.due("aged(-1, 95, 95)", x.aged(-1, 95, 95), 0);
        expect.says(22, "ELDEST: none AGED at all");
        expect.due("aged(-1, 1, 2)", Expect.townOf("house 0 1 9;house 0 1 8;").aged(-1, 1, 2), 0);
        expect.says(22, "ELDEST: no TURNS");
        x.turn(0, 47);
        expect.due("aged(-1, 0, 95)", x.aged(-1, 0, 95), 2);
        expect.says(22, "ELDEST: the sixth one");
        HouseHours six = Expect.townOf("house 0 1 1;".repeat(5) + "house 0 9 1;");
        expect.due("aged(-1, 0, 1)", six.aged(-1, 0, 1), 5);
        expect.says(22, "ELDEST: NONE");
        expect.due("aged(-1, 0, 95)", new HouseHours().aged(-1, 0, 95), NONE);
    }

    private static void promise22Bad() {
        HouseHours x = Expect.townOf("house 0 1 1;house 0 2 1;");
        expect.says(22, "BAD (b less than a, too)");
        for (int h = -1; h < 2; h++) {
            expect.due("aged(" + h + ", 1, 0)", x.aged(h, 1, 0), BAD);
            expect.due("aged(" + h + ", 95, 94)", x.aged(h, 95, 94), BAD);
            expect.due("aged(" + h + ", 94, 95)", x.aged(h, 94, 95) > BAD ? 1 : 0, 1);
        }
        expect.says(22, "BAD: no such QUARTER");
        for (int t : NO_QUARTERS) {
            for (int h = -1; h < 2; h++) {
                expect.due("aged(" + h + ", " + t + ", 95)", x.aged(h, t, 95), BAD);
                expect.due("aged(" + h + ", 0, " + t + ")", x.aged(h, 0, t), BAD);
                expect.due("aged(" + h + ", " + t + ", " + t + ")", x.aged(h, t, t), BAD);
            }
        }
        expect.says(22, "BAD: no such HOUSE; -1 alone is none of them");
        for (int h : new int[] {-2, 2, 6, -9, MIN_VALUE, MAX_VALUE}) {
            expect.due("aged(" + h + ", 0, 1)", x.aged(h, 0, 1), BAD);
        }
        expect.says(22, "BAD, not NONE, with no HOUSES");
        HouseHours none = new HouseHours();
        expect.due("aged(0, 0, 0)", none.aged(0, 0, 0), BAD);
        expect.due("aged(-1, 1, 0)", none.aged(-1, 1, 0), BAD);
        expect.due("aged(-1, 0, 96)", none.aged(-1, 0, 96), BAD);
    }

    private static void promise23EightAtMost() {
        HouseHours x = Expect.townOf("house 0 1 1;house 5 1 1;");
        expect.says(23, "DEBTS (8 at most): its number");
        for (int k = 0; k < 8; k++) {
            expect.due("owes(0, 1, " + (5 + k) + ")", x.owes(0, 1, 5 + k), k);
            expect.due("count(5)", x.count(5), k + 1);
        }
        expect.says(23, "FULL");
        expect.due("owes(1, 0, 40)", x.owes(1, 0, 40), FULL);
        expect.due("count(5)", x.count(5), 8);
        for (int k = 0; k < 8; k++) {
            expect.due("due(" + k + ")", x.due(k), k);
        }
        expect.due("due(-1)", x.due(-1), 0);
        expect.says(23, "BAD ahead of FULL");
        expect.due("owes(0, 2, 0)", x.owes(0, 2, 0), BAD);
        expect.due("owes(2, 0, 0)", x.owes(2, 0, 0), BAD);
        expect.due("owes(0, 0, 0)", x.owes(0, 0, 0), BAD);
        expect.due("owes(0, 1, 48)", x.owes(0, 1, 48), BAD);
        expect.says(23, "the same DEBT again is one more");
        HouseHours same = Expect.townOf("house 0 1 1;house 5 1 1;");
        expect.due("owes(0, 1, 0)", same.owes(0, 1, 0), 0);
        expect.due("owes(0, 1, 0)", same.owes(0, 1, 0), 1);
        expect.due("owes(1, 0, 47)", same.owes(1, 0, 47), 2);
    }

    private static void promise23Bad() {
        HouseHours x = Expect.townOf("house 0 1 1;house 5 1 1;");
        expect.says(23, "BAD (one and the same, too)");
        expect.due("owes(0, 0, 0)", x.owes(0, 0, 0), BAD);
        expect.due("owes(1, 1, 47)", x.owes(1, 1, 47), BAD);
        expect.says(23, "BAD: no such HOUSE");
        for (int h : NO_HOUSES) {
            expect.due("owes(" + h + ", 0, 0)", x.owes(h, 0, 0), BAD);
            expect.due("owes(0, " + h + ", 0)", x.owes(0, h, 0), BAD);
            expect.due("owes(" + h + ", " + h + ", 0)", x.owes(h, h, 0), BAD);
        }
        expect.says(23, "BAD: no such number");
        for (int number : NO_NUMBERS) {
            expect.due("owes(0, 1, " + number + ")", x.owes(0, 1, number), BAD);
        }
        expect.due("count(5)", x.count(5), 0);
    }

    private static void promise24Due() {
        HouseHours x = Expect.townOf("house 0 1 1;house 0 1 9;leap 1 95 37;");
        expect.says(24, "when that SHOWS a number FIRST: by the creditor's clock");
        x.owes(0, 1, 10);
        x.owes(1, 0, 10);
        expect.due("due(0)", x.due(0), 90);
        expect.due("due(1)", x.due(1), 10);
        expect.says(24, "DUE at QUARTER 0 and 95");
        x.owes(0, 1, 0);
        x.owes(0, 1, 47);
        expect.due("due(2)", x.due(2), 0);
        expect.due("due(3)", x.due(3), 95);
        expect.says(24, "DUE: NONE");
        x.owes(0, 1, 11);
        expect.due("due(4)", x.due(4), NONE);
        expect.says(24, "FIRST is from QUARTER 0 on, whatever NOW is");
        x.go(95);
        expect.due("due(1)", x.due(1), 10);
        expect.says(24, "TURNS of the creditor alone");
        x.turn(1, 1);
        expect.due("due(0)", x.due(0), 81);
        expect.due("due(1)", x.due(1), 10);
        expect.due("due(4)", x.due(4), 90);
        expect.due("due(2)", x.due(2), 95);
    }

    /** DEBTS in threes: debtor, creditor and the QUARTER at which it is due. */
    private static void ring(int want, int... debts) {
        HouseHours x = Expect.townOf("house 0 1 3;".repeat(6));
        StringBuilder told = new StringBuilder();
        for (int i = 0; i < debts.length; i += 3) {
            // The clocks show 0 .. 31, three quarters each.
            x.owes(debts[i], debts[i + 1], debts[i + 2] == NEVER ? 40 : debts[i + 2] / 3);
            told.append(debts[i]).append('>').append(debts[i + 1]).append('@').append(debts[i + 2]).append(' ');
            expect.due("due(" + i / 3 + ") of " + told, x.due(i / 3), debts[i + 2] == NEVER ? NONE : debts[i + 2]);
        }
        expect.due("due(-1) of " + told, x.due(-1), want);
    }

    private static void promise24RingsOfTwo() {
        expect.says(24, "RING: 0 with no DEBTS");
        expect.due("due(-1)", new HouseHours().due(-1), 0);
        ring(0);
        expect.says(24, "RING: two DEBTS or more");
        ring(0, 0, 1, 3);
        ring(1, 0, 1, 3, 1, 0, 6);
        ring(1, 0, 1, 6, 1, 0, 3);
        ring(1, 0, 1, 0, 1, 0, 93);
        expect.says(24, "RING: each one's creditor the debtor of the next, the last one's that of the first");
        ring(0, 0, 1, 3, 0, 1, 6);
        ring(0, 0, 1, 3, 1, 2, 6);
        ring(0, 0, 1, 3, 2, 1, 6);
        ring(0, 0, 1, 3, 2, 3, 6);
        ring(0, 0, 1, 3, 2, 0, 6);
        expect.says(24, "RING: each but the last one is DUE ahead of the next one, not at once with it");
        ring(0, 0, 1, 3, 1, 0, 3);
        ring(0, 0, 1, 0, 1, 0, 0);
        expect.says(24, "RING: what is never DUE is ahead of none, and none is ahead of it");
        ring(0, 0, 1, 3, 1, 0, NEVER);
        ring(0, 0, 1, NEVER, 1, 0, 3);
        ring(0, 0, 1, NEVER, 1, 0, NEVER);
        ring(0, 0, 1, 0, 1, 0, NEVER);
    }

    private static void promise24RingsOfMore() {
        expect.says(24, "RING: the last one need not be DUE ahead of the first, whichever is told first");
        ring(1, 0, 1, 3, 1, 2, 6, 2, 0, 9);
        ring(1, 0, 1, 9, 1, 2, 3, 2, 0, 6);
        ring(1, 0, 1, 6, 1, 2, 9, 2, 0, 3);
        ring(1, 2, 0, 9, 1, 2, 6, 0, 1, 3);
        expect.says(24, "RING: more than one falls back, or some are at once");
        ring(0, 0, 1, 9, 1, 2, 6, 2, 0, 3);
        ring(0, 0, 1, 3, 1, 2, 3, 2, 0, 6);
        ring(0, 0, 1, 3, 1, 2, 6, 2, 0, 6);
        ring(0, 0, 1, 3, 1, 2, 6, 2, 0, 3);
        ring(0, 0, 1, 3, 1, 2, NEVER, 2, 0, 6);
        ring(0, 0, 1, 3, 1, 2, 6, 2, 0, NEVER);
        expect.says(24, "RING: of all six HOUSES, told backwards, behind two other DEBTS");
        ring(1, 3, 1, NEVER, 1, 3, NEVER, 5, 0, 18, 4, 5, 15, 3, 4, 12, 2, 3, 9, 1, 2, 6, 0, 1, 3);
        expect.says(24, "RING: of all six HOUSES, one of them late");
        ring(0, 5, 0, 18, 4, 5, 15, 3, 4, 21, 2, 3, 9, 1, 2, 6, 0, 1, 3);
        expect.says(24, "RING: behind a DEBT that leads to it but is not in it");
        ring(1, 3, 0, 0, 0, 1, 3, 1, 2, 6, 2, 0, 9);
        ring(1, 0, 1, 3, 1, 0, 6, 0, 2, 9);
        expect.says(24, "RING: of two DEBTS that may be the next, either one closes it");
        ring(1, 0, 1, 3, 1, 0, 6, 1, 2, 9);
        ring(1, 0, 1, 3, 1, 2, 6, 1, 0, 9);
        ring(1, 0, 1, 3, 1, 2, 6, 1, 3, 9, 2, 0, 12);
        ring(1, 0, 1, 3, 1, 2, 6, 1, 3, 9, 3, 0, 12);
        expect.says(24, "RING: one of two DEBTS between the same fits");
        ring(1, 0, 1, 6, 1, 0, 6, 1, 0, 9);
        ring(1, 0, 1, 9, 1, 2, 6, 2, 0, 12, 0, 1, 3);
        expect.says(24, "RING: no DEBTS that meet a HOUSE twice without a ring between");
        ring(0, 0, 1, 3, 1, 2, 6, 2, 3, 9, 3, 1, 6);
        ring(1, 0, 1, 3, 1, 2, 6, 2, 3, 9, 3, 1, 12);
    }

    private static void promise24RingChanges() {
        expect.says(24, "RING: TURNS make it and end it");
        HouseHours x = Expect.townOf("house 0 1 1;house 0 1 1;");
        x.owes(0, 1, 5);
        x.owes(1, 0, 5);
        expect.due("due(-1)", x.due(-1), 0);
        x.turn(0, 1);
        expect.due("due(-1)", x.due(-1), 1);
        x.turn(1, 1);
        expect.due("due(-1)", x.due(-1), 0);
        x.undo();
        expect.due("due(-1)", x.due(-1), 1);
        expect.says(24, "RING: asked twice, answered alike, and nothing is changed");
        expect.due("due(-1)", x.due(-1), 1);
        expect.due("due(0)", x.due(0), 5);
        expect.due("due(1)", x.due(1), 4);
        expect.says(24, "RING: read anew, there are none");
        Expect.typeAll(x, "house 0 1 1;house 0 1 1;");
        x.town();
        expect.due("due(-1)", x.due(-1), 0);
        x.owes(0, 1, 5);
        expect.due("due(-1), one of old", x.due(-1), 0);
    }

    private static void promise24Bad() {
        expect.says(24, "BAD: no such DEBT");
        HouseHours x = Expect.townOf("house 0 1 1;house 0 1 1;");
        for (int n = 0; n <= 8; n++) {
            for (int k : new int[] {-2, n, n + 1, 8, NONE, MIN_VALUE, MAX_VALUE}) {
                expect.due("due(" + k + ") of " + n, x.due(k), BAD);
            }
            expect.due("due(" + (n - 1) + ") of " + n, x.due(n - 1), n == 0 ? 0 : 7);
            x.owes(0, 1, 7);
        }
    }
}
