/** Promises 2 to 5: type, clear, town, house. */
final class TownTest {
    private static final Expect expect = new Expect("TownTest");

    public static void main(String[] args) {
        types();
        typesTillFull();
        clears();
        readsTowns();
        findsFaultsOfTokens();
        findsFaultsOfItems();
        keepsAllAtAFault();
        readsAnew();
        readsNoneOfAnEarlierText();
        readsFullTexts();
        tellsHouses();
        expect.end();
    }

    private static void types() {
        HouseHours x = new HouseHours();
        for (int n : new int[] {0, 9, -1, Integer.MIN_VALUE, Integer.MAX_VALUE}) {
            expect.due("type(0, " + n + ")", x.type(0, n), HouseHours.BAD);
        }
        expect.due("type(walk 7 ;)", x.type(0x77616C6B2037203BL, 8), 8);
        expect.due("town()", x.town(), 1);
        expect.due("WALK", x.count(1), 7);
        expect.due("type(.. walk, 4)", x.type(0x3B3B3B3B77616C6BL, 4), 4);
        expect.due("type(.. 3;, 2)", x.type(-65536L + 0x333B, 2), 6);
        expect.due("town()", x.town(), 1);
        expect.due("WALK", x.count(1), 3);
    }

    private static void typesTillFull() {
        HouseHours x = new HouseHours();
        for (int i = 1; i <= 37; i++) {
            expect.due("type(blanks, 8)", x.type(0x2020202020202020L, 8), 8 * i);
        }
        expect.due("type(0, 5)", x.type(0, 5), HouseHours.FULL);
        expect.due("bytes", x.count(7), 296);
        expect.due("type(blanks, 4)", x.type(0x20202020L, 4), 300);
        expect.due("type(0, 1)", x.type(0, 1), HouseHours.FULL);
        expect.due("type(0, 9)", x.type(0, 9), HouseHours.BAD);
        expect.due("town()", x.town(), 0);
        expect.due("bytes", x.count(7), 0);
        expect.due("type(0, 1)", x.type(0, 1), 1);
    }

    private static void clears() {
        HouseHours x = new HouseHours();
        expect.due("clear()", x.clear(), 0);
        Expect.typeAll(x, "walk 3; and");
        expect.due("clear()", x.clear(), 11);
        expect.due("clear()", x.clear(), 0);
        Expect.typeAll(x, "walk 4;");
        expect.due("town()", x.town(), 1);
        expect.due("WALK", x.count(1), 4);
    }

    private static void readsTowns() {
        reads("", 0, 0, 1);
        reads("   ", 0, 0, 1);
        reads("walk0;", 1, 0, 0);
        reads("  walk  9  ;  ", 1, 0, 9);
        reads("house 0 1 1;", 1, 1, 1);
        reads("house47 9 9;leap0 95 47;walk 2;", 3, 1, 2);
        reads("house 0 1 1;leap 0 0 1;leap 0 0 1;house 1 2 3 ;leap 1 5 5;", 5, 2, 1);
        reads("house 0 1 1;house 1 1 1;house 2 1 1;house 3 1 1;house 4 1 1;house 5 1 1;leap 5 1 1;", 7, 6, 1);
    }

    private static void reads(String text, int items, int houses, int walk) {
        HouseHours x = new HouseHours();
        Expect.typeAll(x, text);
        expect.due("town() of " + text, x.town(), items);
        expect.due("HOUSES of " + text, x.count(0), houses);
        expect.due("WALK of " + text, x.count(1), walk);
        expect.due("bytes after " + text, x.count(7), 0);
    }

    private static void findsFaultsOfTokens() {
        faults("hous 0 1 1;", 0);
        faults("houses 0 1 1;", 0);
        faults("houseleap 0 1 1;", 0);
        faults("mouse 0 1 1;", 0);
        faults("talk 1;", 0);
        faults("walx 1;", 0);
        faults("house 0 1 1;heap 0 1 1;", 12);
        faults("House 0 1 1;", 0);
        faults("wa lk 5;", 0);
        faults("walk", 4);
        faults("wal", 0);
        faults(" \twalk 5;", 1);
        faults("walk 5\n;", 6);
        faults("walk 5" + (char) 0 + ";", 6);
        faults((char) 255 + "walk 5;", 0);
        faults("walk" + (char) 160 + "5;", 4);
        faults("walk `;", 5);
        faults("walk {;", 5);
        faults("walk /;", 5);
        faults("walk :;", 5);
        faults("walk -1;", 5);
        faults("walk 05;", 5);
        faults("walk 00;", 5);
        faults("walk 100;", 5);
        faults("walk 42949672965;", 5);
        faults("walk 5x;", 6);
        faults("house 0 1 1", 11);
        faults("house 0 1 1   ", 14);
        faults("house ", 6);
        faults("house 0 1", 9);
    }

    private static void findsFaultsOfItems() {
        faults(";", 0);
        faults("5;", 0);
        faults("house 48 1 1;", 6);
        faults("house 0 0 1;", 8);
        faults("house 0 10 1;", 8);
        faults("house 0 1 0;", 10);
        faults("house 0 1 10;", 10);
        faults("house 0 1 1;;", 12);
        faults("house 0 1 1 1;", 12);
        faults("house 0 1 1 house 0 1 1;", 12);
        faults("house house 0 1 1;", 6);
        faults("house ;", 6);
        faults("house leap 0 1 1;", 6);
        faults("house 0 walk 2;", 8);
        faults("leap 0 1 1;", 5);
        faults("leap 0 1 1;house 0 1 1;", 5);
        faults("house 0 1 1;leap 1 0 1;", 17);
        faults("house 0 1 1;leap 0 96 1;", 19);
        faults("house 0 1 1;leap 0 95 0;", 22);
        faults("house 0 1 1;leap 0 95 48;", 22);
        faults("house 0 1 1;leap 0 1 1", 22);
        faults("house 0 1 1;leap 0 1 1 walk 1;", 23);
        faults("house 0 1 1;leap 0 1 1;leap 0 2 2;leap 0 3 3;", 39);
        faults("walk 10;", 5);
        faults("walk 1 1;", 7);
        faults("walk 1;walk 1;", 7);
        faults("walk 1;walk", 7);
        faults("house 0 1 1;house 0 1 1;house 0 1 1;house 0 1 1;house 0 1 1;house 0 1 1; house 0 1 1;", 73);
    }

    private static void faults(String text, int place) {
        HouseHours x = new HouseHours();
        Expect.typeAll(x, text);
        expect.due("town() of " + text, x.town(), -10 - place);
        expect.due("town() again of " + text, x.town(), -10 - place);
        expect.due("bytes of " + text, x.count(7), text.length());
        expect.due("HOUSES of " + text, x.count(0), 0);
        expect.due("WALK of " + text, x.count(1), 1);
    }

    private static void keepsAllAtAFault() {
        HouseHours x = Expect.townOf("house 5 2 3;leap 0 4 4;walk 6;house 7 1 1;");
        changeAll(x);
        Expect.typeAll(x, "house 1 1 1;leap 0 9 9;walk 0;house 9 9 9;house 0 0 0;");
        expect.due("town()", x.town(), -10 - 50);
        int[] counts = {2, 6, 12, 1, 1, 1, 1, 54};
        for (int what = 0; what < counts.length; what++) {
            expect.due("count(" + what + ")", x.count(what), counts[what]);
        }
        expect.due("START", x.house(0, 0), 5);
        expect.due("LEAPS", x.house(0, 3), 1);
        expect.due("TURNS", x.house(1, 4), 3);
        expect.due("shows(0, 95)", x.shows(0, 95), (5 + 63 + 4) % 48);
        expect.due("back(1)", x.back(1), 12);
    }

    private static void changeAll(HouseHours x) {
        x.mark(0, 0);
        x.go(12);
        x.turn(1, 3);
        x.errand(0, 0, 47, 0);
        x.owes(0, 1, 7);
        x.saw(0, 5);
        x.keep(0);
        x.keep(1);
    }

    private static void readsAnew() {
        HouseHours x = Expect.townOf("house 5 2 3;leap 0 4 4;walk 6;house 7 1 1;");
        changeAll(x);
        expect.due("town()", x.town(), 0);
        int[] counts = {0, 1, 0, 0, 0, 0, 0, 0};
        for (int what = 0; what < counts.length; what++) {
            expect.due("count(" + what + ")", x.count(what), counts[what]);
        }
        expect.due("back(0)", x.back(0), HouseHours.STATE);
        expect.due("back(1)", x.back(1), HouseHours.STATE);
        expect.due("undo()", x.undo(), HouseHours.STATE);
        expect.due("trace()", x.trace(), 1);
        Expect.typeAll(x, "house 1 1 1;house 2 1 1;house 3 3 3;");
        expect.due("town()", x.town(), 3);
        expect.due("TURNS", x.house(1, 4), 0);
        expect.due("LEAPS", x.house(0, 3), 0);
        expect.due("shows(0, 10)", x.shows(0, 10), 11);
        expect.due("whose(0)", x.whose(0), 7);
        expect.due("WALK", x.count(1), 1);
    }

    private static void readsNoneOfAnEarlierText() {
        String[] earlier = {"walk 55;", "walkk", "walk 5  ;"};
        String[] later = {"walk 5", "walk", "walk 5"};
        int[] places = {6, 4, 6};
        for (int i = 0; i < earlier.length; i++) {
            HouseHours x = new HouseHours();
            Expect.typeAll(x, earlier[i]);
            x.clear();
            Expect.typeAll(x, later[i]);
            expect.due("town() of " + later[i], x.town(), -10 - places[i]);
        }
    }

    private static void readsFullTexts() {
        faults("a".repeat(300), 0);
        faults("1".repeat(300), 0);
        faults(";".repeat(300), 0);
        faults(" ".repeat(296) + "walk", 300);
        faults(" ".repeat(294) + "walk 9", 300);
        reads(" ".repeat(293) + "walk 9;", 1, 0, 9);
        reads("walk 9;" + " ".repeat(293), 1, 0, 9);
    }

    private static void tellsHouses() {
        HouseHours x = Expect.townOf("house 5 2 3;leap 0 4 4;house 47 9 8;leap 1 0 1;leap 1 0 47;");
        int[][] told = {{5, 2, 3, 1, 0}, {47, 9, 8, 2, 0}};
        for (int h = 0; h < 2; h++) {
            for (int what = 0; what < 5; what++) {
                expect.due("house(" + h + ", " + what + ")", x.house(h, what), told[h][what]);
            }
        }
        x.turn(1, 40);
        x.turn(1, 20);
        expect.due("house(1, 4)", x.house(1, 4), 12);
        expect.due("house(0, 4)", x.house(0, 4), 0);
        for (int bad : new int[] {-1, 2, 6, Integer.MIN_VALUE, Integer.MAX_VALUE}) {
            expect.due("house(" + bad + ", 0)", x.house(bad, 0), HouseHours.BAD);
        }
        for (int bad : new int[] {-1, 5, Integer.MIN_VALUE, Integer.MAX_VALUE}) {
            expect.due("house(0, " + bad + ")", x.house(0, bad), HouseHours.BAD);
        }
    }
}
