import static java.lang.Integer.MAX_VALUE;
import static java.lang.Integer.MIN_VALUE;

/** The boundaries of promises 14 to 18, sentence by sentence: errand, rests, soonest, party, treaty. */
final class ErrandBoundariesTest {
    private static final int NONE = HouseHours.NONE;
    private static final int BAD = HouseHours.BAD;
    private static final int FULL = HouseHours.FULL;
    private static final int NOT_SO_MANY = -5;
    private static final int[] NO_HOUSES = {-1, 2, 6, MIN_VALUE, MAX_VALUE};
    private static final int[] NO_NUMBERS = {-1, 48, 95, MIN_VALUE, MAX_VALUE};
    private static final Expect expect = new Expect("ErrandBoundariesTest");

    public static void main(String[] args) {
        promise14FourAtMost();
        promise14Bad();
        promise15Rests();
        promise16NoErrands();
        promise16Window();
        promise16WindowRound();
        promise16Stay();
        promise16Walk();
        promise16EndOfTheDay();
        promise16WalkPastTheDay();
        promise16FirstOrder();
        promise16FirstOrderOfThoseThatCanBe();
        promise16NotSoMany();
        promise16NothingIsChanged();
        promise16Bad();
        promise17Spread();
        promise17Said();
        promise17NoHouses();
        promise17Bad();
        promise18Turn();
        promise18LeastOfSeveral();
        promise18Bad();
        expect.end();
    }

    /** The QUARTER and the order of the ERRANDS, as soonest() tells them. */
    private static void soonest(HouseHours x, int h, int... endAndOrder) {
        for (int i = 0; i < endAndOrder.length; i++) {
            expect.due("soonest(" + h + ", " + (i - 1) + ")", x.soonest(h, i - 1), endAndOrder[i]);
        }
        if (endAndOrder[0] != NONE) {
            int n = endAndOrder.length - 1;
            expect.due("soonest(" + h + ", " + n + ")", x.soonest(h, n), NOT_SO_MANY);
        }
    }

    private static void promise14FourAtMost() {
        HouseHours x = Expect.townOf("house 0 1 1;house 5 1 1;");
        expect.says(14, "ERRANDS (4 at most): how many there are");
        for (int i = 1; i <= 4; i++) {
            expect.due("errand(1, 0, 47, 9)", x.errand(1, 0, 47, 9), i);
            expect.due("count(3)", x.count(3), i);
        }
        expect.says(14, "FULL");
        expect.due("errand(0, 0, 0, 0)", x.errand(0, 0, 0, 0), FULL);
        expect.due("count(3)", x.count(3), 4);
        soonest(x, 1, 36, 0, 1, 2, 3);
        expect.says(14, "BAD ahead of FULL");
        expect.due("errand(2, 0, 0, 0)", x.errand(2, 0, 0, 0), BAD);
        expect.due("errand(0, 48, 0, 0)", x.errand(0, 48, 0, 0), BAD);
        expect.due("errand(0, 0, 48, 0)", x.errand(0, 0, 48, 0), BAD);
        expect.due("errand(0, 0, 0, 10)", x.errand(0, 0, 0, 10), BAD);
    }

    private static void promise14Bad() {
        HouseHours x = Expect.townOf("house 0 1 1;house 5 1 1;");
        expect.says(14, "BAD: no such HOUSE");
        for (int h : NO_HOUSES) {
            expect.due("errand(" + h + ", 0, 0, 0)", x.errand(h, 0, 0, 0), BAD);
        }
        expect.says(14, "BAD: a number from and a number to (0 .. 47)");
        for (int number : NO_NUMBERS) {
            expect.due("errand(0, " + number + ", 0, 0)", x.errand(0, number, 0, 0), BAD);
            expect.due("errand(0, 0, " + number + ", 0)", x.errand(0, 0, number, 0), BAD);
        }
        expect.says(14, "BAD: so many QUARTERS (0 .. 9)");
        for (int stay : new int[] {-1, 10, MIN_VALUE, MAX_VALUE}) {
            expect.due("errand(0, 0, 0, " + stay + ")", x.errand(0, 0, 0, stay), BAD);
        }
        expect.due("count(3)", x.count(3), 0);
        expect.says(14, "least and most of all that an ERRAND may be");
        expect.due("errand(0, 0, 0, 0)", x.errand(0, 0, 0, 0), 1);
        expect.due("errand(1, 47, 47, 9)", x.errand(1, 47, 47, 9), 2);
        expect.due("errand(1, 47, 0, 9)", x.errand(1, 47, 0, 9), 3);
    }

    private static void promise15Rests() {
        HouseHours x = Expect.townOf("house 0 1 1;");
        expect.says(15, "how many there were");
        expect.due("rests() of none", x.rests(), 0);
        for (int n = 1; n <= 4; n++) {
            for (int i = 0; i < n; i++) {
                x.errand(0, 7, 7, 0);
            }
            expect.due("rests()", x.rests(), n);
            expect.due("rests() again", x.rests(), 0);
        }
        expect.says(15, "No ERRANDS");
        expect.due("count(3)", x.count(3), 0);
        soonest(x, 0, 0);
        expect.says(15, "no ERRANDS, and as many as ever may follow");
        for (int i = 1; i <= 4; i++) {
            expect.due("errand(0, 9, 9, 0)", x.errand(0, 9, 9, 0), i);
        }
        soonest(x, 0, 9, 0, 1, 2, 3);
        expect.says(15, "nothing else goes");
        x.go(3);
        x.turn(0, 5);
        x.rests();
        expect.due("NOW", x.count(2), 3);
        expect.due("TURNS known", x.count(6), 1);
    }

    private static void promise16NoErrands() {
        expect.says(16, "NOW, if there is none");
        HouseHours x = Expect.townOf("house 0 1 1;house 5 1 1;");
        for (int h = 0; h < 2; h++) {
            soonest(x, h, 0);
        }
        x.go(95);
        for (int h = 0; h < 2; h++) {
            soonest(x, h, 95);
        }
    }

    /** When the one ERRAND of the one clock that shows 0 .. 47 twice is begun from NOW on. */
    private static void begins(int from, int to, int now, int begin) {
        HouseHours x = Expect.townOf("house 0 1 1;");
        if (now > 0) {
            x.go(now);
        }
        x.errand(0, from, to, 0);
        String call = "soonest of " + from + " to " + to + " from " + now + " on";
        expect.due(call, x.soonest(0, -1), begin);
    }

    private static void promise16Window() {
        expect.says(16, "that it must SHOW as one begins (from a to b): a and b, too, none between not");
        begins(10, 12, 0, 10);
        begins(10, 12, 9, 10);
        begins(10, 12, 10, 10);
        begins(10, 12, 11, 11);
        begins(10, 12, 12, 12);
        begins(10, 12, 13, 58);
        begins(10, 12, 60, 60);
        begins(10, 12, 61, NONE);
        expect.says(16, "from a to b: one number alone");
        begins(0, 0, 0, 0);
        begins(0, 0, 1, 48);
        begins(0, 0, 49, NONE);
        begins(47, 47, 0, 47);
        begins(47, 47, 48, 95);
        begins(47, 47, 95, 95);
        expect.says(16, "from a to b: all numbers");
        begins(0, 47, 0, 0);
        begins(0, 47, 95, 95);
        expect.says(16, "from NOW on: begun at NOW, not ahead of it");
        begins(0, 20, 20, 20);
        begins(0, 20, 21, 48);
    }

    private static void promise16WindowRound() {
        expect.says(16, "round: a, a and 1, .. b");
        begins(46, 1, 0, 0);
        begins(46, 1, 1, 1);
        begins(46, 1, 2, 46);
        begins(46, 1, 45, 46);
        begins(46, 1, 47, 47);
        begins(46, 1, 48, 48);
        begins(46, 1, 49, 49);
        begins(46, 1, 50, 94);
        begins(47, 0, 0, 0);
        begins(47, 0, 1, 47);
        begins(47, 0, 49, 95);
        expect.says(16, "round: a and all others but none");
        begins(8, 7, 7, 7);
        begins(8, 7, 8, 8);
        begins(1, 0, 0, 0);
        begins(1, 0, 48, 48);
        expect.says(16, "round: all but one");
        begins(9, 7, 8, 9);
        begins(1, 47, 0, 1);
        begins(1, 47, 48, 49);
        begins(0, 46, 95, NONE);
        expect.says(16, "not round: to is not from what it is behind");
        begins(1, 46, 47, 49);
    }

    private static void promise16Stay() {
        for (int stay = 0; stay <= 9; stay++) {
            expect.says(16, "stays so many QUARTERS (0 .. 9): " + stay);
            HouseHours x = Expect.townOf("house 0 1 1;");
            x.errand(0, 0, 47, stay);
            soonest(x, 0, stay, 0);
            x.errand(0, 0, 47, stay);
            soonest(x, 0, 2 * stay, 0, 1);
        }
        expect.says(16, "what it must SHOW as one begins, not as one stays");
        HouseHours x = Expect.townOf("house 0 1 1;");
        x.errand(0, 3, 3, 9);
        soonest(x, 0, 12, 0);
        expect.says(16, "the least QUARTER at which the last one ends, not begins");
        x.errand(0, 14, 14, 9);
        soonest(x, 0, 23, 0, 1);
    }

    private static void promise16Walk() {
        for (int walk = 0; walk <= 9; walk++) {
            expect.says(16, "WALK from HOUSE to HOUSE, none in one and the same: " + walk);
            HouseHours x = Expect.townOf("house 0 1 1;house 0 1 1;house 0 1 1;walk " + walk + ";");
            x.errand(1, 0, 47, 0);
            soonest(x, 0, walk, 0);
            soonest(x, 1, 0, 0);
            soonest(x, 2, walk, 0);
            x.errand(1, 0, 47, 1);
            soonest(x, 0, walk + 1, 0, 1);
            soonest(x, 1, 1, 0, 1);
            x.errand(2, 0, 47, 0);
            soonest(x, 0, 2 * walk + 1, 0, 1, 2);
            soonest(x, 1, walk + 1, 0, 1, 2);
            if (walk > 0) {
                soonest(x, 2, walk + 1, 2, 0, 1);
            }
        }
        expect.says(16, "one walks first, and waits then");
        HouseHours x = Expect.townOf("house 0 1 1;house 0 1 1;walk 9;");
        x.errand(1, 8, 9, 0);
        soonest(x, 0, 9, 0);
        x.turn(1, 1);
        soonest(x, 0, 55, 0);
        soonest(x, 1, 7, 0);
    }

    private static void promise16EndOfTheDay() {
        expect.says(16, "all must be ended at QUARTER 95 at latest");
        for (int stay = 0; stay <= 9; stay++) {
            HouseHours x = Expect.townOf("house 0 1 1;");
            x.go(95 - stay);
            x.errand(0, 0, 47, stay);
            soonest(x, 0, 95, 0);
            if (x.go(1) > 0) {
                soonest(x, 0, NONE, NONE);
            }
        }
        expect.says(16, "NONE: the last of several ends too late, whatever the order");
        HouseHours x = Expect.townOf("house 0 1 1;");
        x.go(59);
        for (int i = 0; i < 4; i++) {
            x.errand(0, 0, 47, 9);
        }
        soonest(x, 0, 95, 0, 1, 2, 3);
        x.go(1);
        soonest(x, 0, NONE, NONE, NONE, NONE, NONE);
        expect.says(16, "NONE: a clock that never SHOWS what it must");
        HouseHours slow = Expect.townOf("house 0 1 9;");
        slow.errand(0, 10, 11, 0);
        soonest(slow, 0, 90, 0);
        slow.errand(0, 11, 47, 0);
        soonest(slow, 0, NONE, NONE, NONE);
    }

    private static void promise16WalkPastTheDay() {
        expect.says(16, "one comes at QUARTER 95 at latest");
        HouseHours x = Expect.townOf("house 0 1 1;house 0 1 1;walk 9;");
        x.go(86);
        x.errand(1, 0, 47, 0);
        soonest(x, 0, 95, 0);
        soonest(x, 1, 86, 0);
        x.go(1);
        soonest(x, 0, NONE, NONE);
        soonest(x, 1, 87, 0);
        x.go(8);
        soonest(x, 0, NONE, NONE);
        soonest(x, 1, 95, 0);
        expect.says(16, "from QUARTER 95 on, with no WALK");
        HouseHours near = Expect.townOf("house 0 1 1;house 0 1 1;house 0 1 1;walk 0;");
        near.go(95);
        near.errand(2, 47, 47, 0);
        near.errand(1, 47, 47, 0);
        near.errand(0, 47, 47, 0);
        soonest(near, 0, 95, 0, 1, 2);
        near.turn(1, 1);
        soonest(near, 0, NONE, NONE, NONE, NONE);
    }

    private static void promise16FirstOrder() {
        expect.says(16, "by the first such order (the first that differs is less): all alike");
        HouseHours x = Expect.townOf("house 0 1 1;house 0 1 1;house 0 1 1;house 0 1 1;walk 0;");
        for (int h = 3; h >= 0; h--) {
            x.errand(h, 0, 47, 1);
        }
        for (int h = 0; h < 4; h++) {
            soonest(x, h, 4, 0, 1, 2, 3);
        }
        expect.says(16, "by the first such order: the wait for one makes the rest as they may");
        HouseHours one = Expect.townOf("house 0 1 1;");
        one.errand(0, 40, 40, 0);
        one.errand(0, 0, 47, 1);
        one.errand(0, 0, 47, 0);
        // 0 first ends at 41, as 1 follows it; 1, 0, 2 ends at 40 as 1, 2, 0 and 2, 1, 0 do.
        soonest(one, 0, 40, 1, 0, 2);
        one.errand(0, 0, 47, 1);
        soonest(one, 0, 40, 1, 2, 3, 0);
        expect.says(16, "the least QUARTER, though its order be the last one");
        HouseHours last = Expect.townOf("house 0 1 1;");
        for (int number : new int[] {30, 20, 10, 5}) {
            last.errand(0, number, number, 0);
        }
        soonest(last, 0, 30, 3, 2, 1, 0);
    }

    private static void promise16FirstOrderOfThoseThatCanBe() {
        expect.says(16, "one order alone can be kept");
        HouseHours x = Expect.townOf("house 0 1 1;");
        x.go(49);
        for (int number : new int[] {11, 10, 13, 12}) {
            x.errand(0, number, number, 1);
        }
        soonest(x, 0, 62, 1, 0, 3, 2);
        expect.says(16, "beginning at a HOUSE: each has its own order");
        HouseHours two = Expect.townOf("house 0 1 1;house 0 1 1;walk 5;");
        two.errand(1, 0, 47, 0);
        two.errand(0, 0, 47, 0);
        soonest(two, 0, 5, 1, 0);
        soonest(two, 1, 5, 0, 1);
    }

    private static void promise16NotSoMany() {
        HouseHours x = Expect.townOf("house 0 1 1;");
        for (int n = 0; n <= 4; n++) {
            expect.says(16, "the i-th ERRAND of the order (-5: not so many): of " + n);
            for (int i = 0; i < n; i++) {
                expect.due("soonest(0, " + i + ")", x.soonest(0, i), i);
            }
            for (int i : new int[] {n, n + 1, 4, 5, 300, MAX_VALUE}) {
                expect.due("soonest(0, " + i + ")", x.soonest(0, i), NOT_SO_MANY);
            }
            x.errand(0, 0, 47, 0);
        }
    }

    private static void promise16NothingIsChanged() {
        expect.says(16, "(Nothing is changed.)");
        HouseHours x = twoErrands();
        for (int i = -2; i < 5; i++) {
            x.soonest(0, i);
            x.soonest(1, i);
            x.soonest(2, i);
        }
        expect.alike("all there is", Look.at(x), Look.at(twoErrands()));
    }

    private static HouseHours twoErrands() {
        HouseHours x = Expect.townOf("house 0 1 1;house 9 1 2;walk 4;");
        x.go(7);
        x.turn(1, 9);
        x.errand(1, 20, 30, 5);
        x.errand(0, 20, 30, 5);
        return x;
    }

    private static void promise16Bad() {
        HouseHours x = twoErrands();
        expect.says(16, "BAD: no such HOUSE");
        for (int h : NO_HOUSES) {
            for (int i = -1; i < 5; i++) {
                expect.due("soonest(" + h + ", " + i + ")", x.soonest(h, i), BAD);
            }
        }
        expect.says(16, "BAD: i below -1");
        for (int i : new int[] {-2, -5, -9, MIN_VALUE}) {
            expect.due("soonest(0, " + i + ")", x.soonest(0, i), BAD);
        }
    }

    private static void promise17Spread() {
        expect.says(17, "SPREAD: from the first who come to the last ones");
        HouseHours x = Expect.townOf("house 0 1 1;house 10 1 1;house 5 1 1;");
        expect.due("party(10)", x.party(10), 10);
        expect.due("party(9)", x.party(9), 47 - 4);
        expect.due("party(0)", x.party(0), 43);
        expect.due("party(47)", x.party(47), 10);
        expect.says(17, "SPREAD of one HOUSE is 0");
        HouseHours one = Expect.townOf("house 0 1 9;");
        expect.due("party(0)", one.party(0), 0);
        expect.due("party(10)", one.party(10), 0);
        expect.says(17, "SPREAD: NONE: some never do");
        expect.due("party(11)", one.party(11), NONE);
        expect.due("party(47)", one.party(47), NONE);
        HouseHours two = Expect.townOf("house 0 1 1;house 0 1 9;");
        expect.due("party(10)", two.party(10), 80);
        expect.due("party(11)", two.party(11), NONE);
        HouseHours slowFirst = Expect.townOf("house 0 1 9;house 0 1 1;");
        expect.due("party(11)", slowFirst.party(11), NONE);
        expect.says(17, "SPREAD of a whole day");
        HouseHours day = Expect.townOf("house 11 1 9;house 0 1 9;leap 1 95 1;");
        expect.due("party(11)", day.party(11), 95);
        expect.says(17, "when it SHOWS it FIRST from QUARTER 0 on, whatever NOW is");
        day.go(95);
        expect.due("party(11)", day.party(11), 95);
        expect.says(17, "TURNS are in what it SHOWS");
        day.turn(1, 11);
        expect.due("party(11)", day.party(11), 0);
    }

    private static void promise17Said() {
        expect.says(17, "SAID: the number by which SPREAD is least");
        HouseHours x = Expect.townOf("house 0 1 1;house 0 1 9;");
        x.turn(1, 20);
        // The second clock shows 20 .. 30, nine quarters each: the first one 20 at 20, 21 at 21, and so on.
        expect.due("party(20)", x.party(20), 20);
        expect.due("party(22)", x.party(22), 4);
        expect.due("party(23)", x.party(23), 4);
        expect.due("party(-1)", x.party(-1), 22);
        expect.says(17, "SAID: of several the least");
        HouseHours alike = Expect.townOf("house 7 1 1;house 7 1 1;");
        expect.due("party(-1)", alike.party(-1), 0);
        HouseHours slow = Expect.townOf("house 40 1 9;house 40 1 9;");
        expect.due("party(-1), 40 .. 47, 0 .. 2", slow.party(-1), 0);
        expect.says(17, "SAID: 47, where no other will do");
        HouseHours top = Expect.townOf("house 37 1 9;house 47 1 9;");
        expect.due("party(-1)", top.party(-1), 47);
        expect.due("party(47)", top.party(47), 90);
        expect.says(17, "SAID: a SPREAD of 95 is one, too");
        HouseHours day = Expect.townOf("house 11 1 9;house 0 1 9;leap 1 95 1;");
        expect.due("party(-1)", day.party(-1), 11);
        expect.says(17, "SAID: NONE");
        HouseHours apart = Expect.townOf("house 0 1 9;house 11 1 9;");
        expect.due("party(-1)", apart.party(-1), NONE);
    }

    private static void promise17NoHouses() {
        expect.says(17, "(No HOUSES: NONE, both.)");
        HouseHours x = new HouseHours();
        for (int number = -1; number <= 47; number++) {
            expect.due("party(" + number + ")", x.party(number), NONE);
        }
        expect.says(17, "BAD, with no HOUSES, too");
        expect.due("party(-2)", x.party(-2), BAD);
        expect.due("party(48)", x.party(48), BAD);
    }

    private static void promise17Bad() {
        expect.says(17, "BAD: a number (0 .. 47), (-1)");
        HouseHours x = Expect.townOf("house 0 1 1;");
        for (int number : new int[] {-2, 48, -9, MIN_VALUE, MAX_VALUE}) {
            expect.due("party(" + number + ")", x.party(number), BAD);
        }
        expect.due("party(0)", x.party(0), 0);
        expect.due("party(47)", x.party(47), 0);
    }

    private static void treaty(HouseHours x, int a, int b, int turn, int howMany) {
        expect.due("treaty(" + a + ", " + b + ", 0)", x.treaty(a, b, 0), turn);
        expect.due("treaty(" + a + ", " + b + ", 1)", x.treaty(a, b, 1), howMany);
    }

    private static void promise18Turn() {
        expect.says(18, "of all TURNS of the second HOUSE (0 .. 47; by 0 too)");
        for (int start = 0; start <= 47; start++) {
            HouseHours x = Expect.townOf("house " + start + " 1 1;house 0 1 1;");
            treaty(x, 0, 1, start, 96);
            treaty(x, 1, 0, (48 - start) % 48, 96);
        }
        expect.says(18, "on most QUARTERS of the day: the first and the last one count");
        treaty(Expect.townOf("house 0 1 1;leap 0 1 7;leap 0 95 41;house 0 1 1;"), 0, 1, 7, 94);
        treaty(Expect.townOf("house 0 1 1;leap 0 47 7;house 0 1 1;"), 0, 1, 7, 49);
        treaty(Expect.townOf("house 0 1 1;leap 0 49 7;house 0 1 1;"), 0, 1, 0, 49);
        expect.says(18, "a TURN besides those that are");
        HouseHours x = Expect.townOf("house 0 1 1;house 0 1 1;");
        x.turn(1, 5);
        treaty(x, 0, 1, 43, 96);
        x.turn(0, 6);
        treaty(x, 0, 1, 1, 96);
        expect.says(18, "(Nothing is changed.)");
        expect.due("TURNS of 1", x.house(1, 4), 5);
        expect.due("TURNS known", x.count(6), 2);
    }

    private static void promise18LeastOfSeveral() {
        expect.says(18, "of several the least: 0 and another one");
        HouseHours x = Expect.townOf("house 0 1 1;leap 0 48 5;house 0 1 1;");
        treaty(x, 0, 1, 0, 48);
        treaty(x, 1, 0, 0, 48);
        expect.says(18, "of several the least: the later one on the day");
        x.turn(0, 45);
        // By 45 on the first half, by 2 on the second one.
        treaty(x, 0, 1, 2, 48);
        expect.says(18, "of several the least: all are alike");
        // 2 by 1 against 1 by 1 is every TURN by two QUARTERS.
        treaty(Expect.townOf("house 0 2 1;house 0 1 1;"), 0, 1, 0, 2);
        treaty(Expect.townOf("house 9 2 1;house 0 1 1;"), 0, 1, 0, 2);
    }

    private static void promise18Bad() {
        HouseHours x = Expect.townOf("house 0 1 1;house 0 1 1;");
        expect.says(18, "BAD (one and the same, too)");
        treaty(x, 0, 0, BAD, BAD);
        treaty(x, 1, 1, BAD, BAD);
        expect.says(18, "BAD: no such HOUSE");
        for (int h : NO_HOUSES) {
            treaty(x, h, 0, BAD, BAD);
            treaty(x, 0, h, BAD, BAD);
            treaty(x, h, h, BAD, BAD);
        }
        expect.says(18, "BAD: what = 0, 1");
        for (int what : new int[] {-1, 2, MIN_VALUE, MAX_VALUE}) {
            expect.due("treaty(0, 1, " + what + ")", x.treaty(0, 1, what), BAD);
        }
    }
}
