import java.util.ArrayDeque;
import java.util.ArrayList;
import java.util.HashSet;
import java.util.List;
import java.util.Set;
import java.util.regex.Matcher;
import java.util.regex.Pattern;

/** The document once more, as plainly as can be, for RandomRunsTest to compare with: every answer is tried out. */
final class PlainHours {
    private static final int NONE = HouseHours.NONE;
    private static final Pattern TOKEN = Pattern.compile("[a-z]+|[0-9]+|;|[^ ]");
    private static final int[] UP = {-1, 0, 0, 1, 2, 0};
    private static final long[] ASKED = {1, 10, 100, 1000, 10000, 100000};

    private record Image(int now, int[] turned, List<int[]> turns) {}

    private final StringBuilder text = new StringBuilder();
    private List<int[]> houses = new ArrayList<>();
    private List<int[]> leaps = new ArrayList<>();
    private int walk = 1;
    private int now;
    private int[] turned = new int[6];
    private List<int[]> turns = new ArrayList<>();
    private final List<int[]> errands = new ArrayList<>();
    private final List<int[]> seen = new ArrayList<>();
    private final List<int[]> debts = new ArrayList<>();
    private final Image[] images = new Image[2];
    private long trace;

    int type(long v, int n) {
        if (n < 1 || n > 8) return HouseHours.BAD;
        if (text.length() + n > 300) return HouseHours.FULL;
        for (int i = n - 1; i >= 0; i--) text.append((char) (v >> 8 * i & 255));
        return text.length();
    }

    int clear() {
        int had = text.length();
        text.setLength(0);
        return had;
    }

    // ---- the text

    int town() {
        List<int[]> newHouses = new ArrayList<>();
        List<int[]> newLeaps = new ArrayList<>();
        int newWalk = -1;
        ArrayDeque<Integer> places = new ArrayDeque<>();
        ArrayDeque<String> tokens = new ArrayDeque<>();
        for (Matcher m = TOKEN.matcher(text); m.find();) {
            places.add(m.start());
            tokens.add(m.group());
        }
        places.add(text.length());
        tokens.add("");
        int items = 0;
        for (; places.size() > 1; items++) {
            int at = places.poll();
            String word = tokens.poll();
            int[] bounds;
            if (word.equals("house") && newHouses.size() < 6) bounds = new int[] {0, 47, 1, 9, 1, 9};
            else if (word.equals("leap")) bounds = new int[] {0, newHouses.size() - 1, 0, 95, 1, 47};
            else if (word.equals("walk") && newWalk < 0) bounds = new int[] {0, 9};
            else return -10 - at;
            int[] told = new int[bounds.length / 2];
            for (int i = 0; i < told.length; i++) {
                String token = tokens.peek();
                boolean stands = token.matches("0|[1-9][0-9]?")
                        && Integer.parseInt(token) >= bounds[2 * i] && Integer.parseInt(token) <= bounds[2 * i + 1];
                if (stands && i == 0 && word.equals("leap")) {
                    int h = Integer.parseInt(token);
                    stands = newLeaps.stream().filter(leap -> leap[0] == h).count() < 2;
                }
                if (!stands) return -10 - places.peek();
                told[i] = Integer.parseInt(tokens.poll());
                places.poll();
            }
            if (!tokens.peek().equals(";")) return -10 - places.peek();
            tokens.poll();
            places.poll();
            if (word.equals("house")) newHouses.add(told);
            else if (word.equals("leap")) newLeaps.add(told);
            else newWalk = told[0];
        }
        houses = newHouses;
        leaps = newLeaps;
        walk = newWalk < 0 ? 1 : newWalk;
        now = 0;
        turned = new int[6];
        turns = new ArrayList<>();
        errands.clear();
        seen.clear();
        debts.clear();
        images[0] = null;
        images[1] = null;
        text.setLength(0);
        return items;
    }

    // ---- clocks

    private boolean no(int h) {
        return h < 0 || h >= houses.size();
    }

    private boolean out(int x, int least, int most) {
        return x < least || x > most;
    }

    private int at(int h, int t) {
        int[] house = houses.get(h);
        int sum = house[0] + t * house[1] / house[2] + turned[h];
        for (int[] leap : leaps) if (leap[0] == h && leap[1] <= t) sum += leap[2];
        return sum % 48;
    }

    int house(int h, int what) {
        if (no(h) || out(what, 0, 4)) return HouseHours.BAD;
        if (what == 3) return (int) leaps.stream().filter(leap -> leap[0] == h).count();
        return what == 4 ? turned[h] % 48 : houses.get(h)[what];
    }

    int shows(int h, int t) {
        return no(h) || out(t, 0, 95) ? HouseHours.BAD : at(h, t);
    }

    int first(int h, int number, int from) {
        if (no(h) || out(number, 0, 47) || out(from, 0, 95)) return HouseHours.BAD;
        for (int t = from; t <= 95; t++) if (at(h, t) == number) return t;
        return NONE;
    }

    int many(int h, int number) {
        if (no(h) || out(number, -1, 47)) return HouseHours.BAD;
        int[] times = new int[48];
        for (int t = 0; t <= 95; t++) times[at(h, t)]++;
        if (number >= 0) return times[number];
        int never = 0;
        for (int n : times) if (n == 0) never++;
        return never;
    }

    int there(int a, int number, int b) {
        if (no(a) || no(b) || out(number, 0, 47)) return HouseHours.BAD;
        int when = first(a, number, 0);
        return when == NONE ? NONE : at(b, when);
    }

    int early(int a, int b, int what) {
        if (no(a) || no(b) || a == b || out(what, 0, 1)) return HouseHours.BAD;
        List<Integer> when = new ArrayList<>();
        for (int t = 0; t <= 95 - walk; t++) if (at(b, t + walk) < at(a, t)) when.add(t);
        return what == 0 ? when.size() : when.isEmpty() ? NONE : when.get(0);
    }

    // ---- time and turns

    int go(int n) {
        if (out(n, 1, 95)) return HouseHours.BAD;
        if (now + n > 95) return HouseHours.STATE;
        return now += n;
    }

    int turn(int h, int by) {
        if (no(h) || out(by, 1, 47)) return HouseHours.BAD;
        turned[h] += by;
        turns.add(new int[] {h, by});
        if (turns.size() > 10) turns.remove(0);
        return at(h, now);
    }

    int undo() {
        if (turns.isEmpty()) return HouseHours.STATE;
        int[] last = turns.remove(turns.size() - 1);
        turned[last[0]] -= last[1];
        return last[0];
    }

    // ---- errands, parties, treaties

    int errand(int h, int from, int to, int stay) {
        if (no(h) || out(from, 0, 47) || out(to, 0, 47) || out(stay, 0, 9)) return HouseHours.BAD;
        if (errands.size() == 4) return HouseHours.FULL;
        errands.add(new int[] {h, from, to, stay});
        return errands.size();
    }

    int rests() {
        int were = errands.size();
        errands.clear();
        return were;
    }

    /** The best end and, behind it, its order; null: none. */
    private int[] best(int h, int time, List<Integer> done) {
        if (done.size() == errands.size()) return end(time, done);
        int[] best = null;
        for (int e = 0; e < errands.size(); e++) {
            if (done.contains(e)) continue;
            int[] errand = errands.get(e);
            Set<Integer> may = new HashSet<>();
            for (int number = errand[1]; may.add(number) && number != errand[2]; number = (number + 1) % 48);
            int begin = time + (errand[0] == h ? 0 : walk);
            while (begin <= 95 && !may.contains(at(errand[0], begin))) begin++;
            if (begin + errand[3] > 95) continue;
            List<Integer> more = new ArrayList<>(done);
            more.add(e);
            int[] found = best(errand[0], begin + errand[3], more);
            if (found != null && (best == null || found[0] < best[0])) best = found;
        }
        return best;
    }

    private int[] end(int time, List<Integer> done) {
        int[] end = new int[done.size() + 1];
        end[0] = time;
        for (int i = 0; i < done.size(); i++) end[i + 1] = done.get(i);
        return end;
    }

    int soonest(int h, int i) {
        if (no(h) || i < -1) return HouseHours.BAD;
        int[] best = best(h, now, List.of());
        if (best == null) return NONE;
        return i >= errands.size() ? -5 : best[i + 1];
    }

    int party(int number) {
        if (out(number, -1, 47)) return HouseHours.BAD;
        if (number >= 0) return spread(number);
        for (int spread = 0; spread <= 95; spread++) {
            for (int said = 0; said <= 47; said++) if (spread(said) == spread) return said;
        }
        return NONE;
    }

    private int spread(int number) {
        int spread = houses.isEmpty() ? NONE : 0;
        for (int a = 0; a < houses.size(); a++) {
            for (int b = 0; b < houses.size(); b++) {
                int one = first(a, number, 0);
                int other = first(b, number, 0);
                if (one == NONE || other == NONE) return NONE;
                spread = Math.max(spread, one - other);
            }
        }
        return spread;
    }

    int treaty(int a, int b, int what) {
        if (no(a) || no(b) || a == b || out(what, 0, 1)) return HouseHours.BAD;
        int most = -1;
        int turn = -1;
        for (int by = 0; by <= 47; by++) {
            int same = 0;
            for (int t = 0; t <= 95; t++) if (at(a, t) == (at(b, t) + by) % 48) same++;
            if (same > most) {
                most = same;
                turn = by;
            }
        }
        return what == 0 ? turn : most;
    }

    // ---- what was seen, ages, debts

    int saw(int t, int number) {
        if (out(t, 0, 95) || out(number, 0, 47)) return HouseHours.BAD;
        if (seen.size() == 8) return HouseHours.FULL;
        seen.add(new int[] {t, number});
        return seen.size();
    }

    int forget() {
        int was = seen.size();
        seen.clear();
        return was;
    }

    int whose(int what) {
        if (out(what, 0, 2)) return HouseHours.BAD;
        List<Integer> could = new ArrayList<>();
        int bits = 0;
        for (int h = 0; h < houses.size(); h++) {
            boolean all = true;
            for (int[] sight : seen) all &= at(h, sight[0]) == sight[1];
            if (all) {
                could.add(h);
                bits += 1 << h;
            }
        }
        if (what == 0) return bits;
        int look = NONE;
        int most = NONE;
        for (int t = 0; could.size() > 1 && t <= 95; t++) {
            Set<Integer> numbers = new HashSet<>();
            for (int h : could) numbers.add(at(h, t));
            if (numbers.size() > most) {
                most = numbers.size();
                look = t;
            }
        }
        return what == 1 ? look : most;
    }

    int aged(int h, int a, int b) {
        if (out(a, 0, 95) || out(b, a, 95) || h != -1 && no(h)) return HouseHours.BAD;
        if (h >= 0) return b * houses.get(h)[1] / houses.get(h)[2] - a * houses.get(h)[1] / houses.get(h)[2];
        int eldest = NONE;
        for (int one = houses.size() - 1; one >= 0; one--) {
            if (eldest == NONE || aged(one, a, b) >= aged(eldest, a, b)) eldest = one;
        }
        return eldest;
    }

    int owes(int a, int b, int number) {
        if (no(a) || no(b) || a == b || out(number, 0, 47)) return HouseHours.BAD;
        if (debts.size() == 8) return HouseHours.FULL;
        debts.add(new int[] {a, b, number});
        return debts.size() - 1;
    }

    int due(int k) {
        if (out(k, -1, debts.size() - 1)) return HouseHours.BAD;
        if (k >= 0) return first(debts.get(k)[1], debts.get(k)[2], 0);
        for (int one = 0; one < debts.size(); one++) if (closes(one, one)) return 1;
        return 0;
    }

    private boolean closes(int one, int last) {
        if (due(last) == NONE) return false;
        if (last != one && debts.get(last)[1] == debts.get(one)[0]) return true;
        for (int next = 0; next < debts.size(); next++) {
            if (debts.get(last)[1] == debts.get(next)[0] && due(last) < due(next) && closes(one, next)) return true;
        }
        return false;
    }

    // ---- kinds, images

    int mark(int kind, int h) {
        if (out(kind, 0, 5) || no(h)) return HouseHours.NO;
        trace += ASKED[kind];
        int up = kind == 0 ? 0 : mark(UP[kind], h);
        return switch (kind) {
            case 0 -> at(h, now);
            case 1 -> up + house(h, 3);
            case 2 -> up - house(h, 1);
            case 3 -> up * 2;
            case 4 -> up + house(h, 2);
            default -> up + now;
        };
    }

    int keep(int image) {
        if (out(image, 0, 1)) return HouseHours.BAD;
        images[image] = new Image(now, turned.clone(), new ArrayList<>(turns));
        return now;
    }

    int back(int image) {
        if (out(image, 0, 1)) return HouseHours.BAD;
        if (images[image] == null) return HouseHours.STATE;
        now = images[image].now();
        turned = images[image].turned().clone();
        turns = new ArrayList<>(images[image].turns());
        return now;
    }

    int count(int what) {
        if (out(what, 0, 7)) return HouseHours.BAD;
        return new int[] {houses.size(), walk, now, errands.size(), seen.size(), debts.size(), turns.size(),
            text.length()}[what];
    }

    long trace() {
        return trace;
    }
}
