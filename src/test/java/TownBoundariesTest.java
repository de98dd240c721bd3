import static java.lang.Integer.MAX_VALUE;
import static java.lang.Integer.MIN_VALUE;

/** The boundaries of promises 1 to 5, sentence by sentence: a new object, type, clear, town, house. */
final class TownBoundariesTest {
    private static final int BAD = HouseHours.BAD;
    private static final int STATE = HouseHours.STATE;
    private static final int FULL = HouseHours.FULL;
    private static final Expect expect = new Expect("TownBoundariesTest");

    public static void main(String[] args) {
        promise1NewObject();
        promise1NothingShared();
        promise1AllCallsOfAnObject();
        promise2BytesOfV();
        promise2TextIsFull();
        promise3Clear();
        promise4Houses();
        promise4NumbersOfAHouse();
        promise4Leaps();
        promise4NumbersOfALeap();
        promise4Walk();
        promise4LongestText();
        promise4Blanks();
        promise4Items();
        promise4EveryByte();
        promise4Words();
        promise4Numbers();
        promise4FirstFault();
        promise4EndsTooEarly();
        promise4NothingChangesAtAFault();
        promise4ReadAnew();
        promise4NothingOfOtherTexts();
        promise5House();
        promise5TurnsTogether();
        expect.end();
    }

    private static void reads(String text, int items) {
        HouseHours x = new HouseHours();
        Expect.typeAll(x, text);
        expect.due("town() of " + text, x.town(), items);
        expect.due("bytes after " + text, x.count(7), 0);
    }

    private static void faults(String text, int place) {
        HouseHours x = new HouseHours();
        Expect.typeAll(x, text);
        expect.due("town() of " + text, x.town(), -10 - place);
        expect.due("bytes after " + text, x.count(7), text.length());
        expect.due("HOUSES after " + text, x.count(0), 0);
        expect.due("WALK after " + text, x.count(1), 1);
    }

    private static void promise1NewObject() {
        HouseHours x = new HouseHours();
        expect.says(1, "no HOUSES");
        expect.due("count(0)", x.count(0), 0);
        expect.due("house(0, 0)", x.house(0, 0), BAD);
        expect.due("turn(0, 1)", x.turn(0, 1), BAD);
        expect.due("whose(0)", x.whose(0), 0);
        expect.says(1, "WALK: 1 at first");
        expect.due("count(1)", x.count(1), 1);
        expect.says(1, "NOW: 0 at first");
        expect.due("count(2)", x.count(2), 0);
        expect.says(1, "no ERRANDS, nothing SEEN, no DEBTS, nothing to be UNDONE, no TEXT");
        for (int what = 3; what < 8; what++) {
            expect.due("count(" + what + ")", x.count(what), 0);
        }
        expect.due("undo()", x.undo(), STATE);
        expect.says(1, "THE TRACE: 0 at first");
        expect.due("trace()", x.trace(), 0);
        expect.says(1, "no IMAGES");
        expect.due("back(0)", x.back(0), STATE);
        expect.due("back(1)", x.back(1), STATE);
        expect.says(1, "THE TEXT is empty, and that tells no ITEMS");
        expect.due("town()", x.town(), 0);
    }

    private static void promise1NothingShared() {
        expect.says(1, "an object knows nothing of what another one was told");
        HouseHours one = Expect.townOf("house 1 1 1;house 2 2 2;leap 0 0 1;walk 5;");
        HouseHours other = Expect.townOf("house 3 3 3;house 4 4 4;");
        one.go(9);
        one.turn(0, 7);
        one.errand(0, 0, 0, 0);
        one.saw(0, 0);
        one.owes(0, 1, 0);
        one.mark(0, 0);
        one.keep(0);
        one.type(0, 3);
        HouseHours untouched = Expect.townOf("house 3 3 3;house 4 4 4;");
        expect.alike("all of the other one", Look.at(other), Look.at(untouched));
    }

    private static void promise1AllCallsOfAnObject() {
        expect.says(1, "an object is used for at most 512 calls");
        HouseHours x = new HouseHours();
        expect.due("1: type(house 0 1, 8)", x.type(0x686F757365302031L, 8), 8);
        expect.due("2: type( 1;, 3)", x.type(0x20313BL, 3), 11);
        expect.due("3: town()", x.town(), 1);
        for (int call = 4; call < 511; call++) {
            expect.due(call + ": mark(5, 0)", x.mark(5, 0), 0);
        }
        expect.due("511: undo()", x.undo(), STATE);
        expect.due("512: trace()", x.trace(), 507L * 100001);
    }

    private static void promise2BytesOfV() {
        expect.says(2, "n (1 .. 8)");
        for (int n : new int[] {0, -1, 9, 10, MIN_VALUE, MAX_VALUE}) {
            HouseHours x = new HouseHours();
            expect.due("type(-1, " + n + ")", x.type(-1, n), BAD);
            expect.due("bytes", x.count(7), 0);
        }
        for (int n = 1; n <= 8; n++) {
            HouseHours x = new HouseHours();
            expect.due("type(0, " + n + ")", x.type(0, n), n);
            expect.due("type(-1, " + n + ")", x.type(-1, n), 2 * n);
            expect.due("bytes", x.count(7), 2 * n);
        }
        expect.says(2, "The lowest n bytes of v, the highest of them first, come to THE TEXT");
        String text = "walk  7;";
        for (int n = 1; n <= 8; n++) {
            HouseHours x = new HouseHours();
            long v = 0x5A5A5A5A5A5A5A5AL;
            for (int i = 0; i < 8; i++) {
                v = v << 8 | text.charAt(i);
                if (i < 8 - n) {
                    expect.due("type(" + v + ", 1)", x.type(v, 1), i + 1);
                }
            }
            expect.due("type(" + v + ", " + n + ")", x.type(v, n), 8);
            expect.due("town()", x.town(), 1);
            expect.due("WALK", x.count(1), 7);
        }
        expect.says(2, "a byte of v may be any");
        HouseHours x = new HouseHours();
        x.type(0x77616C6B20FF353BL, 8);
        expect.due("town()", x.town(), -10 - 5);
    }

    private static void promise2TextIsFull() {
        expect.says(2, "300 bytes at most");
        for (int n = 1; n <= 8; n++) {
            HouseHours x = new HouseHours();
            Expect.typeAll(x, " ".repeat(300 - n));
            expect.due("type(blanks, " + n + ") to 300", x.type(0x2020202020202020L, n), 300);
            expect.due("type(0, 1) at 300", x.type(0, 1), FULL);
            expect.due("bytes", x.count(7), 300);
        }
        for (int n = 2; n <= 8; n++) {
            HouseHours x = new HouseHours();
            Expect.typeAll(x, " ".repeat(301 - n));
            expect.due("type(0, " + n + ") to 301", x.type(0, n), FULL);
            expect.due("bytes", x.count(7), 301 - n);
            expect.due("type(blanks, " + (n - 1) + ") to 300", x.type(0x2020202020202020L, n - 1), 300);
            expect.due("town()", x.town(), 0);
        }
        expect.says(2, "BAD ahead of FULL");
        HouseHours x = new HouseHours();
        Expect.typeAll(x, " ".repeat(300));
        expect.due("type(0, 0)", x.type(0, 0), BAD);
        expect.due("type(0, 9)", x.type(0, 9), BAD);
        expect.due("type(0, least)", x.type(0, MIN_VALUE), BAD);
        expect.due("type(0, most)", x.type(0, MAX_VALUE), BAD);
    }

    private static void promise3Clear() {
        expect.says(3, "how many bytes it had");
        HouseHours x = new HouseHours();
        expect.due("clear() of none", x.clear(), 0);
        x.type(0x3B, 1);
        expect.due("clear() of one", x.clear(), 1);
        Expect.typeAll(x, "a".repeat(300));
        expect.due("clear() of all", x.clear(), 300);
        expect.due("clear() again", x.clear(), 0);
        expect.says(3, "THE TEXT is empty");
        expect.due("count(7)", x.count(7), 0);
        expect.due("town()", x.town(), 0);
        Expect.typeAll(x, "wrong");
        x.clear();
        Expect.typeAll(x, "walk 4;" + " ".repeat(293));
        expect.due("count(7)", x.count(7), 300);
        expect.due("town()", x.town(), 1);
        expect.says(3, "nothing but THE TEXT goes");
        Expect.typeAll(x, "walk 5;");
        x.clear();
        expect.due("WALK", x.count(1), 4);
    }

    private static void promise4Houses() {
        String house = "house 0 1 1;";
        expect.says(4, "HOUSES 0 .. (6 at most)");
        for (int n = 0; n <= 6; n++) {
            HouseHours x = new HouseHours();
            Expect.typeAll(x, house.repeat(n));
            expect.due("town()", x.town(), n);
            expect.due("HOUSES", x.count(0), n);
            expect.due("shows(" + n + ", 0)", x.shows(n, 0), BAD);
        }
        expect.says(4, "FAULT: a seventh house");
        faults(house.repeat(7), 72);
        faults(house.repeat(6) + "leap 5 0 1; walk 2; house 0 1 1;", 72 + 20);
        faults(house.repeat(6) + "house", 72);
        faults(house.repeat(6) + "house 48", 72);
    }

    private static void promise4NumbersOfAHouse() {
        expect.says(4, "START (0 .. 47)");
        for (int start = 0; start <= 99; start++) {
            if (start <= 47) {
                HouseHours x = Expect.townOf("house " + start + " 1 1;");
                expect.due("house(0, 0)", x.house(0, 0), start);
                expect.due("shows(0, 0)", x.shows(0, 0), start);
            } else {
                faults("house " + start + " 1 1;", 6);
            }
        }
        expect.says(4, "RATE P by Q (1 .. 9 each)");
        for (int rate = 1; rate <= 9; rate++) {
            HouseHours x = Expect.townOf("house 0 " + rate + " 3;house 0 3 " + rate + ";");
            expect.due("P", x.house(0, 1), rate);
            expect.due("Q", x.house(0, 2), 3);
            expect.due("P", x.house(1, 1), 3);
            expect.due("Q", x.house(1, 2), rate);
        }
        faults("house 0 0 1;", 8);
        faults("house 0 10 1;", 8);
        faults("house 0 99 1;", 8);
        faults("house 0 1 0;", 10);
        faults("house 0 1 10;", 10);
        faults("house 0 1 99;", 10);
    }

    private static void promise4Leaps() {
        String two = "house 0 1 1;house 0 1 1;";
        expect.says(4, "LEAPS 0 .. (2 at most of a HOUSE)");
        HouseHours none = Expect.townOf(two);
        expect.due("LEAPS", none.house(0, 3), 0);
        HouseHours x = Expect.townOf(two + "leap 0 1 1;leap 1 1 1;leap 0 1 1;");
        expect.due("LEAPS of 0", x.house(0, 3), 2);
        expect.due("LEAPS of 1", x.house(1, 3), 1);
        StringBuilder all = new StringBuilder("house 0 1 1;".repeat(6));
        for (int h = 5; h >= 0; h--) {
            all.append("leap ").append(h).append(" 0 1;leap ").append(h).append(" 0 1;");
        }
        reads(all.toString(), 18);
        expect.says(4, "FAULT: an H of which two leaps were told");
        faults(two + "leap 0 1 1;leap 0 2 2;leap 0 3 3;", 24 + 22 + 5);
        faults(two + "leap 1 1 1;leap 0 2 2;leap 1 3 3;leap 1 3 3;", 24 + 33 + 5);
        faults(two + "leap 1 1 1;leap 1 2 2;house 1 1 1;leap 2 1 1;leap 1 96 0;", 24 + 45 + 5);
    }

    private static void promise4NumbersOfALeap() {
        expect.says(4, "leap H T J (a HOUSE that was told)");
        faults("leap 0 1 1;", 5);
        faults("leap 0 1 1;house 0 1 1;", 5);
        faults("house 0 1 1;leap 1 1 1;house 0 1 1;", 12 + 5);
        faults("house 0 1 1;leap 99 1 1;", 12 + 5);
        faults("house 0 1 1;".repeat(6) + "leap 6 1 1;", 72 + 5);
        HouseHours last = Expect.townOf("house 0 1 1;".repeat(6) + "leap 5 1 1;");
        expect.due("LEAPS of 5", last.house(5, 3), 1);
        HouseHours between = Expect.townOf("house 0 1 1;leap 0 1 1;house 0 1 1;leap 1 1 1;");
        expect.due("LEAPS of 1", between.house(1, 3), 1);
        expect.says(4, "from a QUARTER on (0 .. 95)");
        for (int from : new int[] {0, 1, 94, 95}) {
            HouseHours x = Expect.townOf("house 0 1 1;leap 0 " + from + " 5;");
            expect.due("shows at the QUARTER", x.shows(0, from), (from + 5) % 48);
            expect.due("shows ahead of it", x.shows(0, from - 1), from == 0 ? BAD : (from - 1) % 48);
        }
        faults("house 0 1 1;leap 0 96 1;", 12 + 7);
        faults("house 0 1 1;leap 0 99 1;", 12 + 7);
        expect.says(4, "so much more (1 .. 47)");
        for (int more : new int[] {1, 2, 46, 47}) {
            expect.due("more", Expect.townOf("house 0 1 1;leap 0 0 " + more + ";").shows(0, 0), more);
        }
        faults("house 0 1 1;leap 0 0 0;", 12 + 9);
        faults("house 0 1 1;leap 0 0 48;", 12 + 9);
        faults("house 0 1 1;leap 0 0 99;", 12 + 9);
    }

    private static void promise4Walk() {
        expect.says(4, "WALK (0 .. 9; 1 at first)");
        for (int walk = 0; walk <= 9; walk++) {
            HouseHours x = Expect.townOf("walk " + walk + ";");
            expect.due("WALK", x.count(1), walk);
            Expect.typeAll(x, "house 0 1 1;");
            expect.due("town()", x.town(), 1);
            expect.due("WALK where none is told", x.count(1), 1);
        }
        faults("walk 10;", 5);
        faults("walk 99;", 5);
        expect.says(4, "FAULT: walk told again");
        faults("walk 3;walk 3;", 7);
        faults("walk 1;house 0 1 1; walk 0;", 20);
        faults("walk 0;walk", 7);
        faults("walk 0;walk 99", 7);
        expect.says(4, "walk N may be told behind or ahead of all");
        expect.due("WALK", Expect.townOf("house 0 1 1;walk 9;").count(1), 9);
        expect.due("WALK", Expect.townOf("walk 9;house 0 1 1;leap 0 0 1;").count(1), 9);
    }

    private static void promise4LongestText() {
        expect.says(4, "a text (300 bytes at most)");
        StringBuilder text = new StringBuilder("house 47 9 9;".repeat(6));
        for (int h = 0; h < 6; h++) {
            text.append("leap ").append(h).append(" 95 47;leap ").append(h).append(" 95 46;");
        }
        String all = text.append("walk9").toString();
        HouseHours x = new HouseHours();
        Expect.typeAll(x, all + " ".repeat(299 - all.length()) + ";");
        expect.due("bytes", x.count(7), 300);
        expect.due("town()", x.town(), 19);
        expect.due("HOUSES", x.count(0), 6);
        expect.due("WALK", x.count(1), 9);
        expect.due("shows(5, 94)", x.shows(5, 94), (47 + 94) % 48);
        expect.due("shows(5, 95)", x.shows(5, 95), (47 + 95 + 47 + 46) % 48);
        reads(" ".repeat(300), 0);
        faults(all + " ".repeat(300 - all.length()), 300);
        faults(" ".repeat(299) + "x", 299);
        faults(" ".repeat(299) + ";", 299);
        faults(" ".repeat(299) + "5", 299);
        faults(" ".repeat(299) + "!", 299);
        faults(" ".repeat(296) + "walk", 300);
        faults(" ".repeat(295) + "walk5", 300);
        faults("walk 1;" + " ".repeat(289) + "walk", 296);
    }

    private static void promise4Blanks() {
        expect.says(4, "blanks (32) ahead of, between and behind TOKENS as may be");
        reads("   house   1   2   3   ;   leap   0   4   5   ;   walk   6   ;   ", 3);
        reads(" walk 6 ; ", 1);
        expect.says(4, "none needed where TOKENS end without");
        HouseHours x = Expect.townOf("house1 2 3;leap0 4 5;walk6;house7 8 9;");
        expect.due("START", x.house(0, 0), 1);
        expect.due("LEAPS", x.house(0, 3), 1);
        expect.due("WALK", x.count(1), 6);
        expect.due("START", x.house(1, 0), 7);
        expect.says(4, "TOKENS that would not end without need them");
        faults("house 12 3;", 10);
        faults("house 123;", 6);
        faults("housewalk 1 2 3;", 0);
        faults("wal k 1;", 0);
        faults("house 1 1 1;leap 0 9 6 1;", 12 + 11);
        expect.says(4, "a TOKEN of another kind ends one without");
        faults("walk5walk", 5);
        faults("walk5 5;", 6);
        faults("walk;5", 4);
        faults("house1house", 6);
    }

    private static void promise4Items() {
        expect.says(4, "ITEMS (none, too)");
        reads("", 0);
        reads(" ", 0);
        expect.says(4, "each ended by ;");
        faults("walk 5", 6);
        faults("walk 5 house 0 1 1;", 7);
        faults("house 0 1 1 walk 5;", 12);
        faults("house 0 1 1;leap 0 0 1 leap 0 0 1;", 23);
        faults("house 0 1 1 1;", 12);
        faults("house 0 1 1;leap 0 0 1 1;", 23);
        faults("walk 5 5;", 7);
        faults(";", 0);
        faults("walk 5;;", 7);
        faults("walk 5; ;", 8);
        expect.says(4, "ITEMS: house S P Q, leap H T J, walk N");
        faults("house;", 5);
        faults("house 0;", 7);
        faults("house 0 1;", 9);
        faults("house 0 1 1;leap;", 16);
        faults("house 0 1 1;leap 0;", 18);
        faults("house 0 1 1;leap 0 0;", 20);
        faults("walk;", 4);
        faults("0 1 1;", 0);
        faults("house house 1 1;", 6);
        faults("house 0 leap 1;", 8);
        faults("house 0 1 walk;", 10);
    }

    private static void promise4EveryByte() {
        for (int b = 0; b < 256; b++) {
            char sign = (char) b;
            boolean isDigit = sign >= '0' && sign <= '9';
            boolean isLetter = sign >= 'a' && sign <= 'z';
            expect.says(4, "FAULT: of a byte that begins none, or can't stand where an ITEM begins; byte " + b);
            if (sign == ' ') {
                reads("walk 1;" + sign, 1);
            } else {
                faults("walk 1;" + sign, 7);
            }
            expect.says(4, "FAULT: of a byte that begins none, or no NUMBER; byte " + b);
            if (isDigit) {
                expect.due("WALK", Expect.townOf("walk " + sign + ";").count(1), b - '0');
            } else {
                faults("walk " + sign + ";", sign == ' ' ? 6 : 5);
            }
            expect.says(4, "FAULT: of a byte that begins none, or no ;: byte " + b);
            if (sign == ';') {
                reads("walk 5" + sign, 1);
            } else {
                faults("walk 5" + sign, sign == ' ' ? 7 : isDigit ? 5 : 6);
            }
            expect.says(4, "words of letters a .. z: byte " + b + " is none of them, or makes another word");
            if (sign == ' ' || isDigit) {
                reads("walk" + sign + (isDigit ? ";" : "5;"), 1);
            } else {
                faults("walk" + sign + "5;", isLetter ? 0 : 4);
            }
        }
    }

    private static void promise4Words() {
        expect.says(4, "FAULT: a word that is none of these");
        for (String word : new String[] {"house", "leap", "walk"}) {
            for (int n = 1; n < word.length(); n++) {
                faults(word.substring(0, n) + " 0 1 1;", 0);
                faults(word.substring(n) + " 0 1 1;", 0);
            }
            for (int i = 0; i < word.length(); i++) {
                faults(word.substring(0, i) + "z" + word.substring(i + 1) + " 0 1 1;", 0);
            }
            faults("walk 1;" + word + "s 0 1 1;", 7);
            faults("walk 1;" + word + word + " 0 1 1;", 7);
        }
        faults("a".repeat(300), 0);
        faults("house".repeat(60), 0);
        expect.says(4, "FAULT: of a word that is none of these, where a NUMBER is due, too");
        faults("house x;", 6);
        faults("walk walks;", 5);
    }

    private static void promise4Numbers() {
        String[] above = {"100", "101", "256", "261", "999", "65541", "4294967296", "4294967301", "18446744073709551621",
            "9".repeat(200)};
        for (String number : above) {
            expect.says(4, "FAULT: a NUMBER above 99: " + number);
            faults("walk " + number + ";", 5);
            faults("house " + number + " 1 1;", 6);
            faults(number + ";", 0);
        }
        expect.says(4, "a NUMBER of all 300 bytes");
        faults("1".repeat(300), 0);
        faults("0".repeat(300), 0);
        expect.says(4, "FAULT: a NUMBER with a 0 ahead of others");
        faults("walk 00;", 5);
        faults("walk 05;", 5);
        faults("walk 009;", 5);
        faults("house 047 1 1;", 6);
        faults("house 0 01 1;", 8);
        faults("house 0 1 01;", 10);
        faults("house 0 1 1;leap 00 1 1;", 17);
        expect.says(4, "0 alone stands, and behind another");
        reads("house 0 1 1;leap 0 0 1;walk 0;", 3);
        expect.due("START", Expect.townOf("house 40 1 1;").house(0, 0), 40);
    }

    private static void promise4FirstFault() {
        expect.says(4, "FAULT: the place of the first byte of the first TOKEN that can't stand there");
        faults("house 48 0 10;leap 9 96 48;walk 10;", 6);
        faults("house 0 0 10;", 8);
        faults("house 0 1 1;leap 1 96 48;", 17);
        faults("house 0 1 1;leap 0 96 48;", 19);
        faults("walk 10;walk 100;!", 5);
        faults("walk 1 !", 7);
        faults("walk ! 10", 5);
        faults("   walk   77   ;", 10);
        faults("house 0 1 1; hous", 13);
        expect.says(4, "FAULT of a number that begins a line of bytes that begin none");
        faults("walk -5;", 5);
        faults("walk 5.0;", 6);
        faults("walk 5\t;", 6);
    }

    private static void promise4EndsTooEarly() {
        endsTooEarly("", "house 5 2 3;", 5);
        endsTooEarly("house 5 2 3;", "leap 0 4 5;", 4);
        endsTooEarly("house 5 2 3;", "walk 3;", 4);
        endsTooEarly("walk 3;   ", "house 5 2 3;", 5);
    }

    /** An ITEM cut behind each of its bytes: within the word FAULT is the word's place, then the text's length. */
    private static void endsTooEarly(String ahead, String item, int word) {
        for (int n = 1; n < item.length(); n++) {
            expect.says(4, "FAULT: the text's length, if it ends too early: behind " + n + " bytes of " + item);
            String cut = ahead + item.substring(0, n);
            faults(cut, n < word ? ahead.length() : cut.length());
            faults(cut + "  ", n < word ? ahead.length() : cut.length() + 2);
        }
        expect.says(4, "a text that does not end too early");
        reads(ahead + item, (int) (ahead + item).chars().filter(sign -> sign == ';').count());
    }

    private static void promise4NothingChangesAtAFault() {
        String[] wrong = {"house 9 9 9;house 0 1 1;leap 0 1 1;walk 9;house 8 8 8;!", "walk 9;walk", "house 9 9 9", "x",
            "house 9 9 9;".repeat(7)};
        for (String text : wrong) {
            expect.says(4, "-10 less FAULT: nothing changes: " + text);
            HouseHours x = busyTown();
            HouseHours untouched = busyTown();
            Expect.typeAll(x, text);
            expect.due("town() refused", x.town() <= -10 ? 1 : 0, 1);
            x.clear();
            expect.alike("all there is", Look.at(x), Look.at(untouched));
        }
        expect.says(4, "THE TEXT, too, stays");
        HouseHours x = new HouseHours();
        Expect.typeAll(x, "house 9 2 3;walk 8");
        expect.due("town()", x.town(), -10 - 18);
        expect.due("town() again", x.town(), -10 - 18);
        x.type(';', 1);
        expect.due("town(), mended", x.town(), 2);
        expect.due("START", x.house(0, 0), 9);
        expect.due("WALK", x.count(1), 8);
        expect.due("bytes", x.count(7), 0);
    }

    private static HouseHours busyTown() {
        HouseHours x = Expect.townOf("house 5 2 3;leap 0 4 4;walk 6;house 7 1 1;");
        x.mark(4, 1);
        x.go(12);
        x.turn(1, 3);
        x.turn(0, 5);
        x.errand(0, 0, 47, 2);
        x.owes(0, 1, 7);
        x.owes(1, 0, 12);
        x.saw(0, 10);
        x.keep(0);
        x.go(1);
        x.turn(0, 1);
        x.keep(1);
        return x;
    }

    private static void promise4ReadAnew() {
        HouseHours x = busyTown();
        Expect.typeAll(x, "house 1 1 1;house 2 1 1;house 3 1 1;");
        expect.says(4, "THE TEXT tells all, and is empty then: how many ITEMS");
        expect.due("town()", x.town(), 3);
        expect.due("count(7)", x.count(7), 0);
        expect.due("HOUSES", x.count(0), 3);
        expect.due("LEAPS of an earlier text", x.house(0, 3), 0);
        expect.due("shows(0, 95)", x.shows(0, 95), 0);
        expect.due("WALK of an earlier text", x.count(1), 1);
        expect.says(4, "Read anew: QUARTER 0");
        expect.due("NOW", x.count(2), 0);
        expect.says(4, "Read anew: no TURNS");
        expect.due("TURNS of 0", x.house(0, 4), 0);
        expect.due("TURNS of 1", x.house(1, 4), 0);
        expect.due("TURNS known", x.count(6), 0);
        expect.due("undo()", x.undo(), STATE);
        expect.says(4, "Read anew: no ERRANDS");
        expect.due("count(3)", x.count(3), 0);
        expect.due("rests()", x.rests(), 0);
        expect.says(4, "Read anew: no DEBTS");
        expect.due("count(5)", x.count(5), 0);
        expect.due("due(0)", x.due(0), BAD);
        expect.says(4, "Read anew: nothing SEEN");
        expect.due("count(4)", x.count(4), 0);
        expect.due("whose(0)", x.whose(0), 7);
        expect.says(4, "Read anew: IMAGES are gone");
        expect.due("back(0)", x.back(0), STATE);
        expect.due("back(1)", x.back(1), STATE);
        expect.says(4, "Read anew: THE TRACE stays");
        expect.due("trace()", x.trace(), 10101);
        expect.says(4, "Read anew by an empty text, and then by one that tells fewer HOUSES");
        expect.due("town()", x.town(), 0);
        expect.due("HOUSES", x.count(0), 0);
        expect.due("house(0, 0)", x.house(0, 0), BAD);
        Expect.typeAll(x, "house 4 1 1;");
        expect.due("town()", x.town(), 1);
        expect.due("house(0, 0)", x.house(0, 0), 4);
        expect.due("house(1, 0)", x.house(1, 0), BAD);
    }

    private static void promise4NothingOfOtherTexts() {
        expect.says(4, "THE TEXT tells all: nothing of texts that were read ahead of it");
        HouseHours x = new HouseHours();
        for (int times = 0; times < 4; times++) {
            Expect.typeAll(x, "house 1 2 3;leap 0 5 6;leap 0 7 8;walk 4;");
            expect.due("town()", x.town(), 4);
            expect.due("LEAPS", x.house(0, 3), 2);
            expect.due("shows(0, 95)", x.shows(0, 95), (1 + 63 + 14) % 48);
        }
        for (int times = 0; times < 3; times++) {
            Expect.typeAll(x, "house 1 2 3;");
            expect.due("town()", x.town(), 1);
            expect.due("LEAPS", x.house(0, 3), 0);
            expect.due("shows(0, 95)", x.shows(0, 95), 64 - 48);
            expect.due("WALK", x.count(1), 1);
        }
        expect.says(4, "THE TEXT tells all: nothing of texts with a FAULT");
        for (int times = 0; times < 3; times++) {
            Expect.typeAll(x, "house 9 9 9;leap 0 5 6;leap 0 7 8;walk 4;house 9 9 9;!");
            expect.due("town()", x.town(), -10 - 53);
            x.clear();
            Expect.typeAll(x, "house 1 2 3;leap 0 5 6;");
            expect.due("town()", x.town(), 2);
            expect.due("HOUSES", x.count(0), 1);
            expect.due("LEAPS", x.house(0, 3), 1);
            expect.due("shows(0, 95)", x.shows(0, 95), (1 + 63 + 6) % 48);
            expect.due("WALK", x.count(1), 1);
        }
    }

    private static void promise5House() {
        HouseHours x = Expect.townOf("house 0 1 9;house 47 9 1;leap 1 0 1;leap 1 0 2;house 1 2 3;leap 2 95 47;");
        int[][] told = {{0, 1, 9, 0, 0}, {47, 9, 1, 2, 0}, {1, 2, 3, 1, 0}};
        expect.says(5, "0 START, 1 P, 2 Q, 3 how many LEAPS, 4 its TURNS together");
        for (int h = 0; h < 3; h++) {
            for (int what = 0; what < 5; what++) {
                expect.due("house(" + h + ", " + what + ")", x.house(h, what), told[h][what]);
            }
        }
        expect.says(5, "BAD: no such HOUSE");
        for (int h : new int[] {-1, 3, 6, MIN_VALUE, MAX_VALUE}) {
            for (int what = 0; what < 5; what++) {
                expect.due("house(" + h + ", " + what + ")", x.house(h, what), BAD);
            }
        }
        expect.says(5, "BAD: nothing told of by that number");
        for (int what : new int[] {-1, 5, MIN_VALUE, MAX_VALUE}) {
            expect.due("house(0, " + what + ")", x.house(0, what), BAD);
        }
    }

    private static void promise5TurnsTogether() {
        expect.says(5, "its TURNS together, left over by 48");
        HouseHours x = Expect.townOf("house 10 1 1;house 10 1 1;");
        int[] by = {47, 1, 47, 47, 2};
        int[] together = {47, 0, 47, 46, 0};
        for (int i = 0; i < by.length; i++) {
            x.turn(1, by[i]);
            expect.due("house(1, 4)", x.house(1, 4), together[i]);
            expect.due("house(0, 4)", x.house(0, 4), 0);
        }
        for (int i = 0; i < 12; i++) {
            x.turn(0, 5);
        }
        expect.due("house(0, 4), two of them lost to undo()", x.house(0, 4), 12);
        expect.says(5, "START stays as told, whatever TURNS there are");
        expect.due("house(0, 0)", x.house(0, 0), 10);
    }
}
