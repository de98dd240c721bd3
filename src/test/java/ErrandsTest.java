/** Promises 14 to 18: errand, rests, soonest, party, treaty. */
final class ErrandsTest {
    private static final int NONE = HouseHours.NONE;
    private static final int BAD = HouseHours.BAD;
    private static final int[] STRANGE = {-2, 48, 4800, Integer.MIN_VALUE, Integer.MAX_VALUE};
    private static final Expect expect = new Expect("ErrandsTest");

    public static void main(String[] args) {
        errandsAndRests();
        refusesErrands();
        soonest();
        ordersOfSeveral();
        endsWithTheDay();
        refusesSoonest();
        party();
        treaty();
        expect.end();
    }

    private static void errandsAndRests() {
        HouseHours x = Expect.townOf("house 0 1 1;house 0 1 1;");
        expect.due("rests()", x.rests(), 0);
        for (int i = 1; i <= 4; i++) {
            expect.due("errand(1, 0, 47, 9)", x.errand(1, 0, 47, 9), i);
        }
        expect.due("errand(0, 0, 0, 0)", x.errand(0, 0, 0, 0), HouseHours.FULL);
        expect.due("errand(2, 0, 0, 0)", x.errand(2, 0, 0, 0), BAD);
        expect.due("ERRANDS", x.count(3), 4);
        expect.due("soonest(0, -1)", x.soonest(0, -1), 37);
        expect.due("rests()", x.rests(), 4);
        expect.due("ERRANDS", x.count(3), 0);
        expect.due("errand(1, 5, 5, 0)", x.errand(1, 5, 5, 0), 1);
        expect.due("soonest(0, -1)", x.soonest(0, -1), 5);
    }

    private static void refusesErrands() {
        HouseHours x = Expect.townOf("house 0 1 1;house 0 1 1;");
        expect.due("errand(-1, 0, 0, 0)", x.errand(-1, 0, 0, 0), BAD);
        expect.due("errand(2, 0, 0, 0)", x.errand(2, 0, 0, 0), BAD);
        expect.due("errand(0, -1, 0, 0)", x.errand(0, -1, 0, 0), BAD);
        expect.due("errand(0, 0, -1, 0)", x.errand(0, 0, -1, 0), BAD);
        expect.due("errand(0, 0, 0, -1)", x.errand(0, 0, 0, -1), BAD);
        expect.due("errand(0, 0, 0, 10)", x.errand(0, 0, 0, 10), BAD);
        for (int strange : STRANGE) {
            expect.due("errand(" + strange + ", 0, 0, 0)", x.errand(strange, 0, 0, 0), BAD);
            expect.due("errand(0, " + strange + ", 0, 0)", x.errand(0, strange, 0, 0), BAD);
            expect.due("errand(0, 0, " + strange + ", 0)", x.errand(0, 0, strange, 0), BAD);
            expect.due("errand(0, 0, 0, " + strange + ")", x.errand(0, 0, 0, strange), BAD);
        }
        expect.due("ERRANDS", x.count(3), 0);
    }

    private static void soonest() {
        HouseHours x = Expect.townOf("house 0 1 1;house 0 1 1;house 0 1 1;walk 3;");
        x.go(1);
        expect.due("soonest(2, -1)", x.soonest(2, -1), 1);
        expect.due("soonest(2, 0)", x.soonest(2, 0), -5);
        x.errand(1, 0, 47, 2);
        expect.due("soonest(0, -1), a walk", x.soonest(0, -1), 6);
        expect.due("soonest(1, -1), no walk", x.soonest(1, -1), 3);
        x.rests();
        x.errand(1, 10, 12, 2);
        expect.due("soonest(0, -1), a wait", x.soonest(0, -1), 12);
        x.turn(1, 8);
        expect.due("soonest(0, -1), turned", x.soonest(0, -1), 6);
        expect.due("soonest(1, -1), turned", x.soonest(1, -1), 4);
        x.turn(1, 1);
        expect.due("soonest(0, -1), turned too far", x.soonest(0, -1), 51);
        expect.due("soonest(1, -1), turned on", x.soonest(1, -1), 3);
        x.undo();
        x.undo();
        x.errand(2, 5, 5, 0);
        expect.due("soonest(0, -1), two", x.soonest(0, -1), 12);
        expect.due("soonest(0, 0), two", x.soonest(0, 0), 1);
        expect.due("soonest(0, 1), two", x.soonest(0, 1), 0);
        expect.due("soonest(0, 2), two", x.soonest(0, 2), -5);
        expect.due("NOW", x.count(2), 1);
        expect.due("ERRANDS", x.count(3), 2);
    }

    private static void ordersOfSeveral() {
        HouseHours x = Expect.townOf("house 0 1 1;house 0 1 1;house 0 1 1;walk 2;");
        for (int number = 30; number >= 0; number -= 10) {
            x.errand(0, number, number, 0);
        }
        int[] falling = {30, 3, 2, 1, 0, -5};
        for (int i = -1; i < 5; i++) {
            expect.due("soonest(0, " + i + ")", x.soonest(0, i), falling[i + 1]);
        }
        x.rests();
        x.errand(1, 0, 47, 1);
        x.errand(2, 0, 47, 1);
        x.errand(1, 0, 47, 1);
        x.errand(2, 0, 47, 1);
        // Of all orders with one walk between the two houses this is the first; the others end later.
        int[] paired = {8, 0, 2, 1, 3};
        for (int i = -1; i < 4; i++) {
            expect.due("soonest(0, " + i + "), paired", x.soonest(0, i), paired[i + 1]);
        }
        int[] pairedFromTwo = {6, 1, 3, 0, 2};
        for (int i = -1; i < 4; i++) {
            expect.due("soonest(2, " + i + "), paired", x.soonest(2, i), pairedFromTwo[i + 1]);
        }
    }

    private static void endsWithTheDay() {
        HouseHours x = Expect.townOf("house 0 1 1;house 0 1 1;walk 3;");
        x.errand(0, 46, 1, 0);
        expect.due("soonest(0, -1), round at 0", x.soonest(0, -1), 0);
        x.go(2);
        expect.due("soonest(0, -1), round at 2", x.soonest(0, -1), 46);
        x.go(46);
        x.rests();
        x.errand(0, 47, 47, 0);
        expect.due("soonest(1, -1), till 95", x.soonest(1, -1), 95);
        expect.due("soonest(1, 0), till 95", x.soonest(1, 0), 0);
        x.errand(0, 46, 46, 1);
        expect.due("soonest(1, 0), till 95", x.soonest(1, 0), 1);
        expect.due("soonest(1, -1), till 95", x.soonest(1, -1), 95);
        x.errand(0, 47, 47, 1);
        expect.due("soonest(1, -1), longer", x.soonest(1, -1), NONE);
        expect.due("soonest(1, 0), longer", x.soonest(1, 0), NONE);
        expect.due("soonest(1, 2), longer", x.soonest(1, 2), NONE);
        x.rests();
        x.errand(0, 0, 47, 0);
        x.go(47);
        expect.due("soonest(0, -1) at 95", x.soonest(0, -1), 95);
        expect.due("soonest(1, -1) at 95", x.soonest(1, -1), NONE);
        x.rests();
        expect.due("soonest(1, -1) at 95, none", x.soonest(1, -1), 95);
        HouseHours near = Expect.townOf("house 0 1 1;house 0 1 1;walk 0;");
        near.errand(0, 47, 47, 0);
        near.go(95);
        expect.due("soonest(1, -1) at 95, near", near.soonest(1, -1), 95);
    }

    private static void refusesSoonest() {
        HouseHours x = Expect.townOf("house 0 1 1;");
        expect.due("soonest(0, -2)", x.soonest(0, -2), BAD);
        expect.due("soonest(0, least)", x.soonest(0, Integer.MIN_VALUE), BAD);
        expect.due("soonest(-1, -1)", x.soonest(-1, -1), BAD);
        expect.due("soonest(1, -1)", x.soonest(1, -1), BAD);
        for (int strange : STRANGE) {
            expect.due("soonest(" + strange + ", 0)", x.soonest(strange, 0), BAD);
        }
    }

    private static void party() {
        HouseHours x = Expect.townOf("house 0 1 1;house 10 1 1;");
        expect.due("party(0)", x.party(0), 38);
        expect.due("party(9)", x.party(9), 38);
        expect.due("party(10)", x.party(10), 10);
        expect.due("party(47)", x.party(47), 10);
        expect.due("party(-1)", x.party(-1), 10);
        x.turn(1, 38);
        expect.due("party(5), turned", x.party(5), 0);
        expect.due("party(-1), turned", x.party(-1), 0);
        HouseHours slow = Expect.townOf("house 5 1 9;");
        expect.due("party(5), slow", slow.party(5), 0);
        expect.due("party(4), slow", slow.party(4), NONE);
        expect.due("party(16), slow", slow.party(16), NONE);
        expect.due("party(-1), slow", slow.party(-1), 5);
        HouseHours apart = Expect.townOf("house 5 1 9;house 0 1 9;house 20 1 9;");
        expect.due("party(5), apart", apart.party(5), NONE);
        expect.due("party(-1), apart", apart.party(-1), NONE);
        HouseHours none = new HouseHours();
        expect.due("party(0), no HOUSES", none.party(0), NONE);
        expect.due("party(-1), no HOUSES", none.party(-1), NONE);
        for (int strange : STRANGE) {
            expect.due("party(" + strange + ")", x.party(strange), BAD);
            expect.due("party(" + strange + "), no HOUSES", none.party(strange), BAD);
        }
    }

    private static void treaty() {
        HouseHours x = Expect.townOf("house 0 1 1;house 10 1 1;house 0 1 1;leap 2 48 5;");
        expect.due("treaty(0, 1, 0)", x.treaty(0, 1, 0), 38);
        expect.due("treaty(0, 1, 1)", x.treaty(0, 1, 1), 96);
        expect.due("treaty(1, 0, 0)", x.treaty(1, 0, 0), 10);
        expect.due("treaty(2, 0, 0), as often by 5", x.treaty(2, 0, 0), 0);
        expect.due("treaty(2, 0, 1)", x.treaty(2, 0, 1), 48);
        expect.due("treaty(0, 2, 0), as often by 43", x.treaty(0, 2, 0), 0);
        x.turn(0, 3);
        expect.due("treaty(2, 0, 0), by 45 or 2", x.treaty(2, 0, 0), 2);
        expect.due("treaty(2, 0, 1)", x.treaty(2, 0, 1), 48);
        expect.due("TURNS of 0", x.house(0, 4), 3);
        x.turn(0, 8);
        expect.due("treaty(1, 0, 0), by 47", x.treaty(1, 0, 0), 47);
        expect.due("treaty(0, 1, 0), by 1", x.treaty(0, 1, 0), 1);
        expect.due("treaty(0, 0, 0)", x.treaty(0, 0, 0), BAD);
        expect.due("treaty(0, 1, -1)", x.treaty(0, 1, -1), BAD);
        expect.due("treaty(0, 1, 2)", x.treaty(0, 1, 2), BAD);
        expect.due("treaty(3, 0, 0)", x.treaty(3, 0, 0), BAD);
        for (int strange : STRANGE) {
            expect.due("treaty(" + strange + ", 0, 0)", x.treaty(strange, 0, 0), BAD);
            expect.due("treaty(0, " + strange + ", 0)", x.treaty(0, strange, 0), BAD);
            expect.due("treaty(0, 1, " + strange + ")", x.treaty(0, 1, strange), BAD);
        }
    }
}
