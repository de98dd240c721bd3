import java.util.Random;

/** Runs of calls, the same ones each time, on HouseHours and on PlainHours: the answers are alike. */
final class RandomRunsTest {
    private static final int RUNS = 400;
    private static final int CALLS = 512;
    private static final int[] STRANGE = {-2, -1, 6, 48, 96, 97, Integer.MIN_VALUE, Integer.MAX_VALUE};
    private static final String SIGNS = "  ;;0123456789housewalkleap\tX";
    private static final Expect expect = new Expect("RandomRunsTest");

    private final Random random;
    private final HouseHours x = new HouseHours();
    private final PlainHours plain = new PlainHours();
    private final int houses;
    private int calls;

    private RandomRunsTest(int run) {
        random = new Random(run);
        houses = random.nextInt(7);
    }

    public static void main(String[] args) {
        for (int run = 0; run < RUNS; run++) {
            new RandomRunsTest(run).run(run);
        }
        expect.end();
    }

    private void run(int run) {
        type(randomTown());
        due(run, "town()", x.town(), plain.town());
        int towns = random.nextInt(4) == 0 ? 60 : 3;
        while (calls < CALLS) {
            if (random.nextInt(CALLS) < towns) {
                type(random.nextInt(3) == 0 ? spoilt(randomTown()) : randomTown());
                due(run, "town()", x.town(), plain.town());
                if (random.nextBoolean()) {
                    due(run, "clear()", x.clear(), plain.clear());
                }
            }
            call(run);
        }
    }

    private void due(int run, String call, long got, long want) {
        calls++;
        expect.due("run " + run + ", call " + calls + ": " + call, got, want);
    }

    private void type(String text) {
        for (int i = 0; i < text.length(); i += 8) {
            long v = random.nextLong();
            int n = Math.min(8, text.length() - i);
            for (int k = 0; k < n; k++) {
                v = v << 8 | text.charAt(i + k);
            }
            due(-1, "type(" + v + ", " + n + ")", x.type(v, n), plain.type(v, n));
        }
    }

    private String randomTown() {
        StringBuilder text = new StringBuilder();
        int[] leaps = new int[6];
        for (int h = 0; h < houses; h++) {
            item(text, "house", random.nextInt(48), 1 + random.nextInt(9), 1 + random.nextInt(9));
            for (int i = random.nextInt(3); i > 0; i--) {
                int leaper = random.nextInt(h + 1);
                if (leaps[leaper]++ < 2) {
                    item(text, "leap", leaper, random.nextInt(96), 1 + random.nextInt(47));
                }
            }
        }
        if (random.nextBoolean()) {
            item(text, "walk", random.nextInt(10));
        }
        return text.toString();
    }

    private void item(StringBuilder text, String word, int... numbers) {
        text.append(" ".repeat(random.nextInt(2))).append(word);
        for (int i = 0; i < numbers.length; i++) {
            boolean needed = i > 0;
            text.append(" ".repeat((needed ? 1 : 0) + random.nextInt(2))).append(numbers[i]);
        }
        text.append(" ".repeat(random.nextInt(2))).append(';');
    }

    private String spoilt(String town) {
        StringBuilder text = new StringBuilder(town);
        for (int i = random.nextInt(3); i >= 0; i--) {
            int place = random.nextInt(text.length() + 1);
            char sign = random.nextInt(20) == 0 ? (char) random.nextInt(256) : SIGNS.charAt(random.nextInt(SIGNS.length()));
            switch (random.nextInt(4)) {
                case 0 -> text.insert(place, sign);
                case 1 -> text.setLength(random.nextInt(8) == 0 ? place : text.length());
                case 2 -> text.replace(place, Math.min(place + 1, text.length()), "" + sign);
                default -> text.delete(place, Math.min(place + 1, text.length()));
            }
        }
        return text.toString();
    }

    private int within(int least, int most) {
        if (random.nextInt(40) == 0) {
            return STRANGE[random.nextInt(STRANGE.length)];
        }
        return least + random.nextInt(Math.max(1, most - least + 1));
    }

    private int house() {
        return within(0, houses - 1);
    }

    private int number() {
        return within(0, 47);
    }

    private int quarter() {
        return within(0, 95);
    }

    private void call(int run) {
        int kind = random.nextInt(28);
        if (kind < 14) {
            callOfClocks(run, kind);
        } else {
            callOfTheRest(run, kind);
        }
    }

    private void callOfClocks(int run, int kind) {
        int h = house();
        int b = house();
        int n = number();
        int t = quarter();
        int what = within(0, 4);
        switch (kind) {
            case 0 -> due(run, "house(" + h + ", " + what + ")", x.house(h, what), plain.house(h, what));
            case 1 -> due(run, "shows(" + h + ", " + t + ")", x.shows(h, t), plain.shows(h, t));
            case 2 -> due(run, "first(" + h + ", " + n + ", " + t + ")", x.first(h, n, t), plain.first(h, n, t));
            case 3 -> due(run, "many(" + h + ", " + n + ")", x.many(h, n), plain.many(h, n));
            case 4 -> due(run, "many(" + h + ", -1)", x.many(h, -1), plain.many(h, -1));
            case 5 -> due(run, "there(" + h + ", " + n + ", " + b + ")", x.there(h, n, b), plain.there(h, n, b));
            case 6 -> due(run, "early(" + h + ", " + b + ", 0)", x.early(h, b, 0), plain.early(h, b, 0));
            case 7 -> due(run, "early(" + h + ", " + b + ", 1)", x.early(h, b, 1), plain.early(h, b, 1));
            case 8 -> {
                int by = within(1, random.nextInt(10) == 0 ? 95 : 5);
                due(run, "go(" + by + ")", x.go(by), plain.go(by));
            }
            case 9 -> {
                int by = within(1, 47);
                due(run, "turn(" + h + ", " + by + ")", x.turn(h, by), plain.turn(h, by));
            }
            case 10 -> due(run, "undo()", x.undo(), plain.undo());
            case 11 -> due(run, "party(" + n + ")", x.party(n), plain.party(n));
            case 12 -> due(run, "party(-1)", x.party(-1), plain.party(-1));
            default -> due(run, "treaty(" + h + ", " + b + ", " + what / 2 + ")",
                    x.treaty(h, b, what / 2), plain.treaty(h, b, what / 2));
        }
    }

    private void callOfTheRest(int run, int kind) {
        int h = house();
        int b = house();
        int n = number();
        int t = quarter();
        switch (kind) {
            case 14, 15 -> {
                int to = random.nextBoolean() ? number() : (n + 5) % 48;
                int stay = within(0, 9);
                due(run, "errand(" + h + ", " + n + ", " + to + ", " + stay + ")",
                        x.errand(h, n, to, stay), plain.errand(h, n, to, stay));
            }
            case 16 -> {
                if (random.nextInt(8) == 0) {
                    due(run, "rests()", x.rests(), plain.rests());
                }
            }
            case 17 -> {
                for (int i = -2; i < 5; i++) {
                    due(run, "soonest(" + h + ", " + i + ")", x.soonest(h, i), plain.soonest(h, i));
                }
            }
            case 18 -> {
                int seen = random.nextInt(4) == 0 ? n : Math.max(0, x.shows(h, t));
                due(run, "saw(" + t + ", " + seen + ")", x.saw(t, seen), plain.saw(t, seen));
            }
            case 19 -> {
                if (random.nextInt(3) == 0) {
                    due(run, "forget()", x.forget(), plain.forget());
                }
            }
            case 20 -> {
                for (int what = -1; what < 4; what++) {
                    due(run, "whose(" + what + ")", x.whose(what), plain.whose(what));
                }
            }
            case 21 -> due(run, "aged(" + h + ", " + t + ", " + n + ")", x.aged(h, n, t), plain.aged(h, n, t));
            case 22 -> due(run, "aged(-1, " + n + ", " + t + ")", x.aged(-1, n, t), plain.aged(-1, n, t));
            case 23 -> due(run, "owes(" + h + ", " + b + ", " + n + ")", x.owes(h, b, n), plain.owes(h, b, n));
            case 24 -> {
                for (int k = -2; k < 9; k++) {
                    due(run, "due(" + k + ")", x.due(k), plain.due(k));
                }
            }
            case 25 -> {
                int over = within(0, 5);
                due(run, "mark(" + over + ", " + h + ")", x.mark(over, h), plain.mark(over, h));
                due(run, "trace()", x.trace(), plain.trace());
            }
            case 26 -> {
                int image = within(0, 1);
                boolean keeps = random.nextBoolean();
                due(run, (keeps ? "keep(" : "back(") + image + ")", keeps ? x.keep(image) : x.back(image),
                        keeps ? plain.keep(image) : plain.back(image));
            }
            default -> {
                for (int what = -1; what < 9; what++) {
                    due(run, "count(" + what + ")", x.count(what), plain.count(what));
                }
            }
        }
    }
}
