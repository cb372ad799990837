import java.math.BigInteger;
import java.util.ArrayList;
import java.util.HashSet;
import java.util.List;
import java.util.Set;
import java.util.regex.Matcher;
import java.util.regex.Pattern;

/** A second reading of the document, slow and literal, sharing no code and no representation with BellSeconds. */
final class Oracle {
    static final int UNKNOWN = -1, OUTSIDE = -2, STATE = -3, FULL = -4, NONE = -9;
    private static final Pattern PART =
            Pattern.compile("B[1-3][0-2]|P[0-2][1-3][0-3][0-9][0-9][1-9]|Q[0-9][0-9][1-9]");
    private static final Pattern SHAPE = Pattern.compile("T(" + PART.pattern() + ")*", Pattern.DOTALL);
    private static final BigInteger WRAP = BigInteger.ONE.shiftLeft(64);

    private String text = "";
    private List<int[]> bells = new ArrayList<>();
    private List<int[]> bidders = new ArrayList<>();
    private int[] now = new int[0];
    /** Whole days as they stood ahead of each act. */
    private final List<int[]> acts = new ArrayList<>();
    private final List<int[]> heard = new ArrayList<>();
    private final int[][] slots = new int[2][];
    private BigInteger seed = BigInteger.ZERO;
    private List<int[]> everyDay;

    // ---- the tower

    int write(int letter) {
        if (letter < 0 || letter > 255) return OUTSIDE;
        if (text.length() == 48) return FULL;
        text = text + (char) letter;
        return text.length();
    }

    int wipe() {
        int was = text.length();
        text = "";
        return was;
    }

    private static List<String> parts(String s) {
        List<String> parts = new ArrayList<>();
        if (!SHAPE.matcher(s).matches()) return null;
        Matcher m = PART.matcher(s.substring(1));
        int b = 0, p = 0;
        while (m.find()) {
            String part = m.group();
            if (part.charAt(0) == 'B') {
                b++;
            } else {
                p++;
                boolean peal = part.charAt(0) == 'P';
                String times = part.substring(peal ? 4 : 1);
                if (times.charAt(1) < times.charAt(0)) return null;
                if (peal && part.charAt(1) - '0' >= b) return null;
            }
            if (b > 3 || p > 5) return null;
            parts.add(part);
        }
        return parts;
    }

    /** Whatever can be gone on from can be ended by the tail of one of these. */
    private static boolean canStillBeTower(String s) {
        for (String whole : new String[] {"P010991", "Q991", "B10"}) {
            for (int cut = 0; cut <= whole.length(); cut++) {
                if (parts(s + whole.substring(cut)) != null) return true;
            }
        }
        return false;
    }

    int fault() {
        for (int i = 0; i < text.length(); i++) {
            if (!canStillBeTower(text.substring(0, i + 1))) return i;
        }
        return parts(text) == null ? text.length() : NONE;
    }

    int tower() {
        if (fault() != NONE) return STATE;
        bells = new ArrayList<>();
        bidders = new ArrayList<>();
        for (String part : parts(text)) {
            int[] f = new int[part.length() - 1];
            for (int i = 0; i < f.length; i++) f[i] = part.charAt(i + 1) - '0';
            if (part.charAt(0) == 'B') bells.add(f);
            else if (part.charAt(0) == 'P') bidders.add(f);
            else bidders.add(new int[] {NONE, 0, 0, f[0], f[1], f[2]});
        }
        now = new int[bidders.size()];
        acts.clear();
        slots[0] = slots[1] = null;
        everyDay = null;
        return 10 * bells.size() + bidders.size();
    }

    private boolean noBell(int b) { return b < 0 || b >= bells.size(); }
    private boolean noBidder(int b) { return b < 0 || b >= bidders.size(); }
    private boolean noSecond(int s) { return s < 0 || s > 9; }
    private boolean quiet(int b) { return bidders.get(b)[0] == NONE; }

    private List<Integer> strokeBegins(int bidder, int second) {
        int[] p = bidders.get(bidder);
        List<Integer> begins = new ArrayList<>();
        int s = second;
        for (int k = 0; k < p[1]; k++) {
            begins.add(s);
            s += bells.get(p[0])[0];
            s += p[2];
        }
        return begins;
    }

    private Set<Integer> ringSeconds(int bidder, int second) {
        Set<Integer> set = new HashSet<>();
        if (quiet(bidder)) return set;
        int r = bells.get(bidders.get(bidder)[0])[0];
        for (int b : strokeBegins(bidder, second)) for (int k = 0; k < r; k++) set.add(b + k);
        return set;
    }

    private Set<Integer> takenSeconds(int bidder, int second) {
        Set<Integer> set = new HashSet<>();
        int[] bell = bells.get(bidders.get(bidder)[0]);
        for (int b : strokeBegins(bidder, second)) for (int k = 0; k < bell[0] + bell[1]; k++) set.add(b + k);
        return set;
    }

    private boolean may(int bidder, int second) {
        int[] p = bidders.get(bidder);
        if (quiet(bidder)) return second == p[3];
        int[] bell = bells.get(p[0]);
        if (p[1] > 1 && p[2] < bell[1]) return false;
        List<Integer> begins = strokeBegins(bidder, second);
        return begins.get(0) >= p[3] && begins.get(begins.size() - 1) + bell[0] - 1 <= p[4];
    }

    private boolean clash(int a, int sa, int b, int sb) {
        if (quiet(a) && quiet(b)) return false;
        if (quiet(a)) return clash(b, sb, a, sa);
        if (quiet(b)) {
            for (int s : ringSeconds(a, sa)) {
                if (s >= bidders.get(b)[3] && s <= bidders.get(b)[4]) return true;
            }
            return false;
        }
        if (bidders.get(a)[0] != bidders.get(b)[0]) return false;
        Set<Integer> both = takenSeconds(a, sa);
        both.retainAll(takenSeconds(b, sb));
        return !both.isEmpty();
    }

    private int worth(int[] day) {
        int w = 0;
        for (int i = 0; i < day.length; i++) if (day[i] > 0) w += bidders.get(i)[5];
        return w;
    }

    private int who(int[] day) {
        int bits = 0;
        for (int i = 0; i < day.length; i++) if (day[i] > 0) bits += 1 << i;
        return bits;
    }

    private int bellsIn(int[] day, int second) {
        int bits = 0;
        for (int i = 0; i < day.length; i++) {
            if (day[i] > 0 && ringSeconds(i, day[i] - 1).contains(second)) bits |= 1 << bidders.get(i)[0];
        }
        return bits;
    }

    int bell(int bell, int what) {
        if (noBell(bell)) return UNKNOWN;
        if (what < 0 || what > 2) return OUTSIDE;
        if (what < 2) return bells.get(bell)[what];
        int bits = 0;
        for (int s = 0; s < 10; s++) if ((bellsIn(now, s) & 1 << bell) != 0) bits += 1 << s;
        return bits;
    }

    int bidder(int bidder, int what) {
        if (noBidder(bidder)) return UNKNOWN;
        if (what < 0 || what > 7) return OUTSIDE;
        if (what < 6) return bidders.get(bidder)[what];
        if (what == 6) return now[bidder] == 0 ? NONE : now[bidder] - 1;
        int bits = 0;
        for (int s = 0; s < 10; s++) if (may(bidder, s)) bits += 1 << s;
        return bits;
    }

    int rings(int second) {
        return noSecond(second) ? OUTSIDE : bellsIn(now, second);
    }

    int clashes(int bidder, int second) {
        if (noBidder(bidder)) return UNKNOWN;
        if (noSecond(second)) return OUTSIDE;
        if (!may(bidder, second)) return STATE;
        return clashing(now, bidder, second);
    }

    private int clashing(int[] day, int bidder, int second) {
        int bits = 0;
        for (int i = 0; i < day.length; i++) {
            if (i != bidder && day[i] > 0 && clash(bidder, second, i, day[i] - 1)) bits += 1 << i;
        }
        return bits;
    }

    // ---- acts

    private boolean can(int[] day, int bidder, int second) {
        return !noBidder(bidder) && day[bidder] == 0 && may(bidder, second) && clashing(day, bidder, second) == 0;
    }

    private void act(int bidder, int told) {
        acts.add(now.clone());
        if (acts.size() > 16) acts.remove(0);
        now[bidder] = told;
    }

    int let(int bidder, int second) {
        if (noBidder(bidder)) return UNKNOWN;
        if (noSecond(second)) return OUTSIDE;
        if (!can(now, bidder, second)) return STATE;
        act(bidder, second + 1);
        return worth(now);
    }

    int revoke(int bidder) {
        if (noBidder(bidder)) return UNKNOWN;
        if (now[bidder] == 0) return STATE;
        act(bidder, 0);
        return worth(now);
    }

    int move(int bidder, int second) {
        if (noBidder(bidder)) return UNKNOWN;
        if (noSecond(second)) return OUTSIDE;
        if (now[bidder] == 0 || now[bidder] == second + 1) return STATE;
        int[] without = now.clone();
        without[bidder] = 0;
        if (!can(without, bidder, second)) return STATE;
        int was = now[bidder] - 1;
        act(bidder, second + 1);
        return was;
    }

    int undo() {
        if (acts.isEmpty()) return STATE;
        now = acts.remove(acts.size() - 1);
        return acts.size();
    }

    // ---- lettings

    /** In the document's order: by BIDDERS, 0 first, then SECONDS. */
    private List<int[]> days() {
        if (everyDay == null) {
            everyDay = new ArrayList<>();
            grow(new int[bidders.size()], 0);
        }
        return everyDay;
    }

    private void grow(int[] day, int next) {
        if (next == day.length) {
            everyDay.add(day.clone());
            return;
        }
        grow(day, next + 1);
        for (int s = 0; s < 10; s++) {
            if (can(day, next, s)) {
                day[next] = s + 1;
                grow(day, next + 1);
                day[next] = 0;
            }
        }
    }

    private int everyone() { return (1 << bidders.size()) - 1; }

    int best(int those) {
        if (those < 0 || those >= 1 << bidders.size()) return OUTSIDE;
        int most = 0;
        for (int[] day : days()) if ((who(day) & ~those) == 0) most = Math.max(most, worth(day));
        return most;
    }

    private int[] bestDay() {
        int most = best(everyone());
        for (int[] day : days()) if (worth(day) == most) return day;
        throw new IllegalStateException();
    }

    int bestOf(int bidder) {
        if (noBidder(bidder)) return UNKNOWN;
        int told = bestDay()[bidder];
        return told == 0 ? NONE : told - 1;
    }

    int beside() {
        int most = 0;
        for (int[] day : days()) {
            boolean stays = true;
            for (int i = 0; i < day.length; i++) stays &= now[i] == 0 || now[i] == day[i];
            if (stays) most = Math.max(most, worth(day) - worth(now));
        }
        return most;
    }

    int price(int bidder) {
        if (noBidder(bidder)) return UNKNOWN;
        int[] day = bestDay().clone();
        if (day[bidder] == 0) return NONE;
        day[bidder] = 0;
        return best(everyone() - (1 << bidder)) - worth(day);
    }

    int many() {
        int most = 0;
        for (int[] day : days()) most = Math.max(most, Integer.bitCount(who(day)));
        return most;
    }

    int room(int bidder, int what) {
        if (noBidder(bidder)) return UNKNOWN;
        if (what < 0 || what > 1) return OUTSIDE;
        if (now[bidder] > 0) return STATE;
        int least = NONE, from = NONE;
        for (int s = 0; s < 10; s++) {
            for (int gone = 0; gone <= everyone(); gone++) {
                if ((gone & ~who(now)) != 0) continue;
                int[] left = now.clone();
                for (int i = 0; i < left.length; i++) if ((gone & 1 << i) != 0) left[i] = 0;
                int lost = worth(now) - worth(left);
                if (can(left, bidder, s) && (from == NONE || lost < least)) {
                    least = lost;
                    from = s;
                }
            }
        }
        return what == 0 ? least : from;
    }

    private int fewest;

    int hands() {
        List<int[]> strokes = new ArrayList<>();
        for (int i = 0; i < now.length; i++) {
            if (now[i] == 0 || quiet(i)) continue;
            int bell = bidders.get(i)[0];
            for (int b : strokeBegins(i, now[i] - 1)) strokes.add(new int[] {b, b + bells.get(bell)[0], bell});
        }
        strokes.sort((x, y) -> Integer.compare(x[0], y[0]));
        fewest = strokes.size();
        hand(strokes, 0, new ArrayList<>());
        return fewest;
    }

    private void hand(List<int[]> strokes, int next, List<int[]> lasts) {
        if (lasts.size() >= fewest && next < strokes.size()) return;
        if (next == strokes.size()) {
            fewest = Math.min(fewest, lasts.size());
            return;
        }
        int[] stroke = strokes.get(next);
        for (int i = 0; i < lasts.size(); i++) {
            int[] last = lasts.get(i);
            if (last[1] + Math.abs(last[2] - stroke[2]) <= stroke[0]) {
                lasts.set(i, stroke);
                hand(strokes, next + 1, lasts);
                lasts.set(i, last);
            }
        }
        lasts.add(stroke);
        hand(strokes, next + 1, lasts);
        lasts.remove(lasts.size() - 1);
    }

    int judge(int n, long row) {
        if (n < 1 || n > 5 || row < 0) return OUTSIDE;
        String figures = Long.toString(row);
        if (figures.length() > 2 * n) return OUTSIDE;
        figures = "0".repeat(2 * n - figures.length()) + figures;
        int[] day = now.clone();
        for (int i = 0; i < n; i++) {
            int bidder = figures.charAt(2 * i) - '0', second = figures.charAt(2 * i + 1) - '0';
            if (!can(day, bidder, second)) return i;
            day[bidder] = second + 1;
        }
        return NONE;
    }

    // ---- heard

    int hear(int second, int bits) {
        if (noSecond(second) || bits < 0 || bits >= 1 << bells.size()) return OUTSIDE;
        if (heard.size() == 6) return FULL;
        heard.add(new int[] {second, bits});
        return heard.size();
    }

    int unhear() {
        int was = heard.size();
        heard.clear();
        return was;
    }

    private List<int[]> fitting() {
        int there = (1 << bells.size()) - 1;
        List<int[]> fit = new ArrayList<>();
        for (int[] day : days()) {
            boolean so = true;
            for (int[] h : heard) so = so && bellsIn(day, h[0]) == (h[1] & there);
            if (so) fit.add(day);
        }
        return fit;
    }

    int fit(int what) {
        if (what < 0 || what > 2) return OUTSIDE;
        List<int[]> fit = fitting();
        if (what == 0) return fit.size();
        if (fit.isEmpty()) return NONE;
        int all = everyone(), none = everyone();
        for (int[] day : fit) {
            all &= who(day);
            none &= ~who(day);
        }
        return what == 1 ? all : none;
    }

    int likely(int second, boolean upper) {
        if (noSecond(second)) return OUTSIDE;
        List<int[]> fit = fitting();
        if (fit.isEmpty()) return STATE;
        int ringing = 0;
        for (int[] day : fit) if (bellsIn(day, second) != 0) ringing++;
        int common = BigInteger.valueOf(ringing).gcd(BigInteger.valueOf(fit.size())).intValue();
        return (upper ? ringing : fit.size()) / common;
    }

    int unwanted() {
        int bits = 0;
        for (int s = 0; s < 10; s++) {
            boolean wanted = false;
            for (int i = 0; i < bidders.size(); i++) {
                if (quiet(i)) wanted |= bidders.get(i)[3] <= s && s <= bidders.get(i)[4];
                else for (int b = 0; b < 10; b++) wanted |= may(i, b) && ringSeconds(i, b).contains(s);
            }
            if (!wanted) bits += 1 << s;
        }
        return bits;
    }

    // ---- sealed, seeds

    private static int[] gains(int a, int b, int x, int y) {
        return x >= y ? new int[] {a - x, 0} : new int[] {0, b - y};
    }

    int sealed(int a, int b, int what) {
        if (a < 0 || a > 9 || b < 0 || b > 9 || what < 0 || what > 1) return OUTSIDE;
        List<Integer> rests = new ArrayList<>();
        for (int pair = 0; pair < 100; pair++) {
            int x = pair / 10, y = pair % 10;
            boolean rest = true;
            for (int z = 0; z < 10; z++) {
                rest &= gains(a, b, z, y)[0] <= gains(a, b, x, y)[0];
                rest &= gains(a, b, x, z)[1] <= gains(a, b, x, y)[1];
            }
            if (rest) rests.add(pair);
        }
        return what == 0 ? rests.size() : rests.isEmpty() ? NONE : rests.get(0);
    }

    long seed(long v) {
        long was = seed.longValue();
        seed = BigInteger.valueOf(v).mod(WRAP);
        return was;
    }

    int day(int m) {
        if (m < 1 || m > 20) return OUTSIDE;
        int[] day = now.clone();
        for (int i = 0; i < m; i++) {
            seed = seed.multiply(new BigInteger("6364136223846793005"))
                    .add(new BigInteger("1442695040888963407")).mod(WRAP);
            int left = seed.shiftRight(33).mod(BigInteger.valueOf(50)).intValue();
            if (can(day, left / 10, left % 10)) day[left / 10] = left % 10 + 1;
        }
        return worth(day);
    }

    // ---- slots

    int keep(int slot) {
        if (slot != 0 && slot != 1) return UNKNOWN;
        slots[slot] = now.clone();
        return worth(now);
    }

    int again(int slot) {
        if (slot != 0 && slot != 1) return UNKNOWN;
        if (slots[slot] == null) return STATE;
        now = slots[slot].clone();
        acts.clear();
        return worth(now);
    }

    int count(int what) {
        int ringing = 0;
        for (int s = 0; s < 10; s++) if (bellsIn(now, s) != 0) ringing += 1 << s;
        int[] counts = {text.length(), bells.size(), bidders.size(), who(now), worth(now), ringing,
            acts.size(), heard.size()};
        return what < 0 || what > 7 ? OUTSIDE : counts[what];
    }
}
