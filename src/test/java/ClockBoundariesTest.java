import static java.lang.Integer.MAX_VALUE;
import static java.lang.Integer.MIN_VALUE;

/** The boundaries of promises 6 to 13, sentence by sentence: shows, first, many, there, early, go, turn, undo. */
final class ClockBoundariesTest {
    private static final int NONE = HouseHours.NONE;
    private static final int BAD = HouseHours.BAD;
    private static final int STATE = HouseHours.STATE;
    private static final int[] NO_HOUSES = {-1, 2, 6, MIN_VALUE, MAX_VALUE};
    private static final int[] NO_NUMBERS = {-1, 48, 95, MIN_VALUE, MAX_VALUE};
    private static final int[] NO_QUARTERS = {-1, 96, 97, MIN_VALUE, MAX_VALUE};
    private static final Expect expect = new Expect("ClockBoundariesTest");

    public static void main(String[] args) {
        promise6Rates();
        promise6Leaps();
        promise6LeftOver();
        promise6Bad();
        promise7FromOneOn();
        promise7None();
        promise7Bad();
        promise8Many();
        promise8Never();
        promise8Bad();
        promise9There();
        promise9Bad();
        promise10LastQuarter();
        promise10Less();
        promise10Bad();
        promise11Go();
        promise12Turn();
        promise12Bad();
        promise13Undo();
        promise13TenAtMost();
        expect.end();
    }

    private static void shows(HouseHours x, int h, int... timesAndNumbers) {
        for (int i = 0; i < timesAndNumbers.length; i += 2) {
            expect.due("shows(" + h + ", " + timesAndNumbers[i] + ")", x.shows(h, timesAndNumbers[i]),
                    timesAndNumbers[i + 1]);
        }
    }

    private static void promise6Rates() {
        expect.says(6, "QUARTERS times P by Q (cut): the slowest");
        shows(Expect.townOf("house 0 1 9;"), 0, 0, 0, 8, 0, 9, 1, 17, 1, 18, 2, 89, 9, 90, 10, 95, 10);
        expect.says(6, "QUARTERS times P by Q (cut): a little less than one");
        shows(Expect.townOf("house 0 8 9;"), 0, 1, 0, 2, 1, 8, 7, 9, 8, 10, 8, 95, 84 - 48);
        expect.says(6, "QUARTERS times P by Q (cut): the product is cut, not the rate");
        shows(Expect.townOf("house 0 3 2;"), 0, 1, 1, 2, 3, 3, 4, 95, 142 - 96);
        shows(Expect.townOf("house 0 9 7;"), 0, 6, 7, 7, 9, 95, 122 - 96);
        expect.says(6, "QUARTERS times P by Q (cut): the quickest");
        shows(Expect.townOf("house 0 9 1;"), 0, 5, 45, 6, 6, 95, 855 - 17 * 48);
        expect.says(6, "QUARTERS times P by Q (cut): as quick as QUARTERS");
        shows(Expect.townOf("house 0 9 9;"), 0, 0, 0, 47, 47, 48, 0, 95, 47);
    }

    private static void promise6Leaps() {
        expect.says(6, "LEAPS that have begun: at the very QUARTER, not ahead of it");
        shows(Expect.townOf("house 0 1 1;leap 0 40 3;"), 0, 39, 39, 40, 43, 41, 44, 45, 0, 95, 2);
        expect.says(6, "LEAPS that have begun: at QUARTER 0");
        shows(Expect.townOf("house 0 1 1;leap 0 0 3;"), 0, 0, 3, 95, 2);
        expect.says(6, "LEAPS that have begun: at QUARTER 95");
        shows(Expect.townOf("house 0 1 1;leap 0 95 3;"), 0, 94, 46, 95, 2);
        expect.says(6, "LEAPS that have begun: two of a HOUSE, the later one told first");
        shows(Expect.townOf("house 0 1 1;leap 0 20 3;leap 0 10 5;"), 0, 9, 9, 10, 15, 19, 24, 20, 28);
        expect.says(6, "LEAPS that have begun: two at one QUARTER");
        shows(Expect.townOf("house 0 1 1;leap 0 10 47;leap 0 10 47;"), 0, 9, 9, 10, 8);
        expect.says(6, "LEAPS are of their HOUSE alone");
        shows(Expect.townOf("house 0 1 1;house 0 1 1;leap 1 0 9;"), 0, 0, 0, 95, 47);
    }

    private static void promise6LeftOver() {
        expect.says(6, "left over by 48 (0 .. 47)");
        shows(Expect.townOf("house 47 1 1;"), 0, 0, 47, 1, 0, 48, 47, 49, 0);
        HouseHours x = Expect.townOf("house 47 9 1;leap 0 95 47;leap 0 95 47;");
        shows(x, 0, 94, (47 + 846) % 48, 95, (47 + 855 + 94) % 48);
        x.turn(0, 47);
        shows(x, 0, 94, (47 + 846 + 47) % 48, 95, (47 + 855 + 94 + 47) % 48);
        expect.says(6, "TURNS added: left over by 48 at the very edge");
        HouseHours y = Expect.townOf("house 1 1 1;");
        y.turn(0, 46);
        shows(y, 0, 0, 47, 1, 0);
        y.turn(0, 1);
        shows(y, 0, 0, 0, 47, 47);
        expect.says(6, "SHOWS at a QUARTER that is not NOW");
        y.go(95);
        shows(y, 0, 0, 0, 47, 47);
    }

    private static void promise6Bad() {
        HouseHours x = Expect.townOf("house 0 1 1;house 1 1 1;");
        expect.says(6, "BAD: no such HOUSE");
        for (int h : NO_HOUSES) {
            expect.due("shows(" + h + ", 0)", x.shows(h, 0), BAD);
        }
        expect.says(6, "BAD: no such QUARTER");
        for (int t : NO_QUARTERS) {
            expect.due("shows(0, " + t + ")", x.shows(0, t), BAD);
        }
    }

    private static void promise7FromOneOn() {
        HouseHours x = Expect.townOf("house 0 1 1;house 0 1 9;");
        expect.says(7, "the first QUARTER from one on: that one, too");
        expect.due("first(0, 0, 0)", x.first(0, 0, 0), 0);
        expect.due("first(0, 0, 48)", x.first(0, 0, 48), 48);
        expect.due("first(0, 20, 20)", x.first(0, 20, 20), 20);
        expect.due("first(1, 0, 8)", x.first(1, 0, 8), 8);
        expect.says(7, "the first QUARTER from one on: none ahead of it");
        expect.due("first(0, 0, 1)", x.first(0, 0, 1), 48);
        expect.due("first(0, 20, 21)", x.first(0, 20, 21), 68);
        expect.due("first(1, 3, 0)", x.first(1, 3, 0), 27);
        expect.says(7, "(to 95)");
        expect.due("first(0, 47, 48)", x.first(0, 47, 48), 95);
        expect.due("first(0, 47, 95)", x.first(0, 47, 95), 95);
        expect.due("first(1, 10, 95)", x.first(1, 10, 95), 95);
        expect.says(7, "from a QUARTER on, whatever NOW is");
        x.go(95);
        expect.due("first(0, 5, 0)", x.first(0, 5, 0), 5);
        expect.says(7, "what it SHOWS has TURNS in it");
        x.turn(0, 47);
        expect.due("first(0, 47, 0)", x.first(0, 47, 0), 0);
        expect.due("first(0, 0, 0)", x.first(0, 0, 0), 1);
    }

    private static void promise7None() {
        expect.says(7, "NONE");
        HouseHours x = Expect.townOf("house 0 1 1;house 0 1 9;house 0 1 1;leap 2 20 2;leap 2 68 2;");
        expect.due("first(0, 46, 95)", x.first(0, 46, 95), NONE);
        expect.due("first(0, 0, 49)", x.first(0, 0, 49), NONE);
        expect.due("first(1, 0, 9)", x.first(1, 0, 9), NONE);
        expect.due("first(1, 11, 0)", x.first(1, 11, 0), NONE);
        expect.due("first(1, 47, 0)", x.first(1, 47, 0), NONE);
        expect.says(7, "NONE: a LEAP leaves numbers out");
        expect.due("first(2, 19, 0)", x.first(2, 19, 0), 19);
        expect.due("first(2, 20, 0)", x.first(2, 20, 0), 66);
        expect.due("first(2, 22, 0)", x.first(2, 22, 0), 20);
        expect.due("first(2, 22, 67)", x.first(2, 22, 67), NONE);
    }

    private static void promise7Bad() {
        HouseHours x = Expect.townOf("house 0 1 1;house 1 1 1;");
        expect.says(7, "BAD: no such HOUSE");
        for (int h : NO_HOUSES) {
            expect.due("first(" + h + ", 0, 0)", x.first(h, 0, 0), BAD);
        }
        expect.says(7, "BAD: no such number");
        for (int number : NO_NUMBERS) {
            expect.due("first(0, " + number + ", 0)", x.first(0, number, 0), BAD);
        }
        expect.says(7, "BAD: no such QUARTER");
        for (int from : NO_QUARTERS) {
            expect.due("first(0, 0, " + from + ")", x.first(0, 0, from), BAD);
        }
    }

    private static void promise8Many() {
        expect.says(8, "MANY: at how many QUARTERS of the day: the first and the last one, too");
        HouseHours x = Expect.townOf("house 0 1 1;leap 0 1 1;leap 0 95 4;house 0 1 9;house 0 8 1;");
        // From 1 on it shows one more, at 95 five more: 0 at 0 and 47, 1 at 48, 4 at 3, 51 and 95.
        expect.due("many(0, 0)", x.many(0, 0), 2);
        expect.due("many(0, 1)", x.many(0, 1), 1);
        expect.due("many(0, 4)", x.many(0, 4), 3);
        expect.says(8, "MANY: numbers that it SHOWS for many QUARTERS on end, and left over");
        expect.due("many(1, 0)", x.many(1, 0), 9);
        expect.due("many(1, 10)", x.many(1, 10), 6);
        expect.due("many(2, 40)", x.many(2, 40), 16);
        expect.says(8, "MANY: 0 for a number that it SHOWS at none");
        expect.due("many(1, 11)", x.many(1, 11), 0);
        expect.due("many(1, 47)", x.many(1, 47), 0);
        expect.due("many(2, 47)", x.many(2, 47), 0);
        for (int h = 0; h < 3; h++) {
            expect.says(8, "MANY: of all numbers (0 .. 47) together as many as the day has QUARTERS, HOUSE " + h);
            int all = 0;
            for (int number = 0; number <= 47; number++) {
                all += x.many(h, number);
            }
            expect.due("together", all, 96);
        }
        expect.says(8, "MANY: with TURNS, NOW left aside");
        x.go(95);
        x.turn(1, 40);
        expect.due("many(1, 40)", x.many(1, 40), 9);
        expect.due("many(1, 2)", x.many(1, 2), 6);
        expect.due("many(1, 10)", x.many(1, 10), 0);
    }

    private static void promise8Never() {
        expect.says(8, "NEVER (number -1): how many numbers it SHOWS at none");
        HouseHours x = Expect.townOf("house 0 1 1;house 0 1 9;house 0 8 1;house 0 1 9;leap 3 95 37;");
        expect.due("many(0, -1)", x.many(0, -1), 0);
        expect.due("many(1, -1)", x.many(1, -1), 48 - 11);
        expect.due("many(2, -1)", x.many(2, -1), 48 - 6);
        expect.says(8, "NEVER: a number that it SHOWS at QUARTER 95 alone is none of them");
        expect.due("many(3, 47)", x.many(3, 47), 1);
        expect.due("many(3, -1)", x.many(3, -1), 48 - 12);
        expect.says(8, "NEVER: a number that it SHOWS at QUARTER 0 alone is none of them");
        HouseHours leaving = Expect.townOf("house 20 1 9;leap 0 1 5;");
        expect.due("many(0, 20)", leaving.many(0, 20), 1);
        expect.due("many(0, -1)", leaving.many(0, -1), 48 - 12);
        expect.says(8, "NEVER: TURNS change the numbers, not how many");
        x.turn(1, 30);
        expect.due("many(1, -1)", x.many(1, -1), 48 - 11);
        HouseHours one = Expect.townOf("house 0 1 1;leap 0 48 1;");
        expect.due("many(0, -1)", one.many(0, -1), 0);
    }

    private static void promise8Bad() {
        HouseHours x = Expect.townOf("house 0 1 1;house 1 1 1;");
        expect.says(8, "BAD: no such HOUSE");
        for (int h : NO_HOUSES) {
            expect.due("many(" + h + ", 0)", x.many(h, 0), BAD);
            expect.due("many(" + h + ", -1)", x.many(h, -1), BAD);
        }
        expect.says(8, "BAD: no such number");
        for (int number : new int[] {-2, 48, MIN_VALUE, MAX_VALUE}) {
            expect.due("many(0, " + number + ")", x.many(0, number), BAD);
        }
    }

    private static void promise9There() {
        HouseHours x = Expect.townOf("house 0 1 1;house 40 2 1;house 0 1 9;leap 2 95 37;");
        expect.says(9, "what another HOUSE SHOWS when the one SHOWS a number FIRST from QUARTER 0 on");
        expect.due("there(0, 0, 1)", x.there(0, 0, 1), 40);
        expect.due("there(0, 0, 2)", x.there(0, 0, 2), 0);
        expect.due("there(2, 0, 0)", x.there(2, 0, 0), 0);
        expect.due("there(0, 3, 1)", x.there(0, 3, 1), 46);
        expect.due("there(0, 4, 1)", x.there(0, 4, 1), 0);
        expect.due("there(0, 47, 1)", x.there(0, 47, 1), 134 - 96);
        expect.due("there(2, 10, 0)", x.there(2, 10, 0), 90 - 48);
        expect.says(9, "the one SHOWS it FIRST at QUARTER 95");
        expect.due("there(2, 47, 0)", x.there(2, 47, 0), 47);
        expect.due("there(2, 47, 1)", x.there(2, 47, 1), 230 - 192);
        expect.says(9, "NONE");
        expect.due("there(1, 41, 0)", x.there(1, 41, 0), NONE);
        expect.due("there(2, 11, 0)", x.there(2, 11, 0), NONE);
        expect.says(9, "another HOUSE may be the one, too: no word refuses it");
        expect.due("there(0, 9, 0)", x.there(0, 9, 0), 9);
        expect.due("there(2, 11, 2)", x.there(2, 11, 2), NONE);
        expect.says(9, "from QUARTER 0 on, whatever NOW is");
        x.go(95);
        expect.due("there(0, 3, 1)", x.there(0, 3, 1), 46);
        expect.says(9, "TURNS of both");
        x.turn(1, 2);
        expect.due("there(0, 3, 1)", x.there(0, 3, 1), 0);
        x.turn(0, 1);
        expect.due("there(0, 3, 1)", x.there(0, 3, 1), 46);
    }

    private static void promise9Bad() {
        HouseHours x = Expect.townOf("house 0 1 1;house 0 1 9;");
        expect.says(9, "BAD: no such HOUSE");
        for (int h : NO_HOUSES) {
            expect.due("there(" + h + ", 0, 0)", x.there(h, 0, 0), BAD);
            expect.due("there(0, 0, " + h + ")", x.there(0, 0, h), BAD);
        }
        expect.says(9, "BAD, not NONE, where the one never SHOWS the number");
        expect.due("there(1, 20, 2)", x.there(1, 20, 2), BAD);
        expect.due("there(1, 20, -1)", x.there(1, 20, -1), BAD);
        expect.says(9, "BAD: no such number");
        for (int number : NO_NUMBERS) {
            expect.due("there(0, " + number + ", 1)", x.there(0, number, 1), BAD);
        }
    }

    private static void visits(HouseHours x, int a, int b, int howMany, int first) {
        expect.due("early(" + a + ", " + b + ", 0)", x.early(a, b, 0), howMany);
        expect.due("early(" + a + ", " + b + ", 1)", x.early(a, b, 1), first);
    }

    private static void promise10LastQuarter() {
        for (int walk = 0; walk <= 9; walk++) {
            String told = "walk " + walk + ";";
            expect.says(10, "of QUARTERS 0 to 95 less WALK: all of them, " + told);
            visits(Expect.townOf("house 30 1 9;house 0 1 9;" + told), 0, 1, 96 - walk, 0);
            expect.says(10, "of QUARTERS 0 to 95 less WALK: the last one alone, " + told);
            visits(Expect.townOf("house 0 1 9;house 20 1 9;leap 1 95 18;" + told), 0, 1, 1, 95 - walk);
            expect.says(10, "the first; NONE: none of them, " + told);
            visits(Expect.townOf("house 0 1 9;house 20 1 9;" + told), 0, 1, 0, NONE);
            expect.says(10, "WALK later: the clock is looked at as he comes, " + told);
            // The second clock shows 0 from QUARTER 50 on for nine QUARTERS, the first one 20 or more ever.
            visits(Expect.townOf("house 20 1 9;house 40 1 9;leap 1 50 3;" + told), 0, 1,
                    96 - 50, 50 - walk);
        }
        expect.says(10, "WALK is 1 where none is told");
        visits(Expect.townOf("house 30 1 9;house 0 1 9;"), 0, 1, 95, 0);
    }

    private static void promise10Less() {
        expect.says(10, "when that SHOWS less: the same number is not less");
        visits(Expect.townOf("house 5 1 1;house 5 1 1;walk 0;"), 0, 1, 0, NONE);
        visits(Expect.townOf("house 1 1 1;house 0 1 1;"), 0, 1, 0, NONE);
        visits(Expect.townOf("house 5 1 9;house 4 1 9;walk 0;"), 0, 1, 96, 0);
        expect.says(10, "(as numbers 0 .. 47): past 47 it is less");
        visits(Expect.townOf("house 0 1 1;house 0 1 1;"), 0, 1, 1, 47);
        visits(Expect.townOf("house 47 1 1;house 47 1 1;"), 0, 1, 2, 0);
        expect.says(10, "the first one's number as he left, and TURNS");
        HouseHours x = Expect.townOf("house 0 1 9;house 0 1 9;walk 9;");
        visits(x, 0, 1, 0, NONE);
        x.turn(0, 1);
        visits(x, 0, 1, 0, NONE);
        x.turn(0, 1);
        visits(x, 0, 1, 87, 0);
        visits(x, 1, 0, 0, NONE);
        expect.says(10, "EARLY is of the whole day, whatever NOW is");
        x.go(95);
        visits(x, 0, 1, 87, 0);
    }

    private static void promise10Bad() {
        HouseHours x = Expect.townOf("house 0 1 1;house 1 1 1;");
        expect.says(10, "BAD (one and the same, too)");
        for (int h = 0; h < 2; h++) {
            visits(x, h, h, BAD, BAD);
        }
        expect.says(10, "BAD: no such HOUSE");
        for (int h : NO_HOUSES) {
            visits(x, h, 0, BAD, BAD);
            visits(x, 0, h, BAD, BAD);
            visits(x, h, h, BAD, BAD);
        }
        expect.says(10, "BAD: what = 0, 1");
        for (int what : new int[] {-1, 2, MIN_VALUE, MAX_VALUE}) {
            expect.due("early(0, 1, " + what + ")", x.early(0, 1, what), BAD);
        }
    }

    private static void promise11Go() {
        expect.says(11, "n QUARTERS go by (1 .. 95): NOW");
        for (int n = 1; n <= 95; n++) {
            HouseHours x = new HouseHours();
            expect.due("go(" + n + ")", x.go(n), n);
            expect.due("count(2)", x.count(2), n);
            expect.says(11, "STATE: the day is not so long; from " + n + " on");
            expect.due("go(" + (96 - n) + ")", x.go(96 - n), STATE);
            expect.due("go(95)", x.go(95), STATE);
            expect.due("count(2)", x.count(2), n);
            expect.due("go(to 95)", n < 95 ? x.go(95 - n) : x.go(1), n < 95 ? 95 : STATE);
            expect.due("count(2)", x.count(2), 95);
        }
        expect.says(11, "BAD");
        HouseHours x = new HouseHours();
        for (int n : new int[] {0, -1, 96, MIN_VALUE, MAX_VALUE}) {
            expect.due("go(" + n + ")", x.go(n), BAD);
        }
        expect.due("NOW", x.count(2), 0);
        expect.says(11, "BAD ahead of STATE");
        x.go(95);
        for (int n : new int[] {0, -1, 96, MIN_VALUE, MAX_VALUE}) {
            expect.due("go(" + n + ") at 95", x.go(n), BAD);
        }
        expect.due("NOW", x.count(2), 95);
    }

    private static void promise12Turn() {
        expect.says(12, "what it SHOWS NOW");
        HouseHours x = Expect.townOf("house 0 1 1;house 10 1 1;");
        x.go(50);
        expect.due("turn(0, 1)", x.turn(0, 1), 3);
        expect.due("turn(0, 44)", x.turn(0, 44), 47);
        expect.due("turn(0, 1)", x.turn(0, 1), 0);
        expect.due("turn(1, 47)", x.turn(1, 47), 11);
        expect.says(12, "ever (on all QUARTERS, those ahead, too)");
        shows(x, 0, 0, 46, 1, 47, 2, 0, 49, 47, 50, 0, 95, 45);
        shows(x, 1, 0, 9, 38, 47, 39, 0, 95, 8);
        expect.says(12, "a TURN is of its HOUSE alone");
        HouseHours y = Expect.townOf("house 0 1 1;house 10 1 1;");
        y.turn(1, 5);
        shows(y, 0, 0, 0, 95, 47);
        expect.says(12, "TURNED by 1 .. 47");
        for (int by = 1; by <= 47; by++) {
            HouseHours z = Expect.townOf("house 5 1 1;");
            expect.due("turn(0, " + by + ")", z.turn(0, by), (5 + by) % 48);
            expect.due("turn(0, " + (48 - by) + ")", z.turn(0, 48 - by), 5);
        }
        expect.says(12, "more TURNS than may be UNDONE");
        for (int i = 1; i <= 100; i++) {
            expect.due("turn(0, 47)", y.turn(0, 47), Math.floorMod(-i, 48));
        }
    }

    private static void promise12Bad() {
        HouseHours x = Expect.townOf("house 0 1 1;house 1 1 1;");
        expect.says(12, "BAD: no such HOUSE");
        for (int h : NO_HOUSES) {
            expect.due("turn(" + h + ", 1)", x.turn(h, 1), BAD);
        }
        expect.says(12, "BAD: by 1 .. 47");
        for (int by : new int[] {0, -1, 48, MIN_VALUE, MAX_VALUE}) {
            expect.due("turn(0, " + by + ")", x.turn(0, by), BAD);
        }
        expect.due("TURNS known", x.count(6), 0);
        shows(x, 0, 0, 0);
    }

    private static void promise13Undo() {
        expect.says(13, "UNDONE: the HOUSE of the latest TURN");
        HouseHours x = Expect.townOf("house 0 1 1;house 10 1 1;");
        x.turn(1, 47);
        x.turn(0, 47);
        x.go(9);
        x.turn(1, 47);
        expect.due("undo()", x.undo(), 1);
        expect.due("TURNS of 1", x.house(1, 4), 47);
        expect.due("TURNS of 0", x.house(0, 4), 47);
        expect.due("undo()", x.undo(), 0);
        expect.due("TURNS of 0", x.house(0, 4), 0);
        expect.due("undo()", x.undo(), 1);
        expect.due("TURNS of 1", x.house(1, 4), 0);
        expect.says(13, "STATE: none is known");
        expect.due("undo()", x.undo(), STATE);
        expect.due("undo() again", x.undo(), STATE);
        expect.due("undo() of a new object", new HouseHours().undo(), STATE);
        expect.says(13, "nothing but the TURN is UNDONE");
        expect.due("NOW", x.count(2), 9);
        expect.says(13, "a refused TURN is none to be UNDONE");
        x.turn(0, 48);
        expect.due("undo()", x.undo(), STATE);
        expect.says(13, "UNDONE across 0");
        x.turn(0, 30);
        x.turn(0, 30);
        expect.due("TURNS of 0", x.house(0, 4), 12);
        x.undo();
        expect.due("TURNS of 0", x.house(0, 4), 30);
    }

    private static void promise13TenAtMost() {
        for (int turns = 9; turns <= 31; turns++) {
            expect.says(13, "the latest TURN (10 at most are known, older ones are lost): of " + turns);
            HouseHours x = Expect.townOf("house 0 1 1;house 0 1 1;house 0 1 1;");
            for (int i = 0; i < turns; i++) {
                x.turn(i % 3, 1);
                expect.due("TURNS known", x.count(6), Math.min(i + 1, 10));
            }
            int known = Math.min(turns, 10);
            for (int i = 1; i <= known; i++) {
                expect.due("undo()", x.undo(), (turns - i) % 3);
                expect.due("TURNS known", x.count(6), known - i);
            }
            expect.due("undo()", x.undo(), STATE);
            for (int h = 0; h < 3; h++) {
                expect.due("TURNS of " + h + " that stay", x.house(h, 4), (turns - known + 2 - h) / 3);
            }
        }
        expect.says(13, "a lost one does not come back by undo() and another TURN");
        HouseHours x = Expect.townOf("house 0 1 1;house 0 1 1;");
        x.turn(1, 1);
        for (int i = 0; i < 10; i++) {
            x.turn(0, 1);
        }
        x.undo();
        x.turn(0, 2);
        expect.due("TURNS known", x.count(6), 10);
        for (int i = 0; i < 10; i++) {
            expect.due("undo()", x.undo(), 0);
        }
        expect.due("undo()", x.undo(), STATE);
        expect.due("TURNS of 1", x.house(1, 4), 1);
    }
}
