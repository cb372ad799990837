/** Bounds of part 3 of the document (promises 22 to 32). */
public final class HeardBoundsTests {
    private static final int UNKNOWN = Check.UNKNOWN, OUTSIDE = Check.OUTSIDE, STATE = Check.STATE;
    private static final int FULL = Check.FULL, NONE = Check.NONE;
    private static final Check CHECK = new Check();
    private static final long TIMES = 6364136223846793005L, MORE = 1442695040888963407L;
    /** One bell; 0 wants second 0 or 1, 1 wants second 0, 2 wants silence in 1: eight days. */
    private static final String EIGHT = "TB10P010015P010003Q112";

    public static void main(String[] args) {
        hearSeconds();
        hearBells();
        sixHeard();
        justSomeBells();
        bellsGone();
        unheard();
        fitBounds();
        fitNone();
        fitAllAndNone();
        likelyBounds();
        likelyNone();
        leastTerms();
        mostDays();
        unwantedSeconds();
        sealedBounds();
        sealedEdges();
        sealedAll();
        seeds();
        dayBounds();
        dayTimes();
        dayDraws();
        slotBounds();
        keptDays();
        countBounds();
        CHECK.end();
    }

    private static void due(String call, long want, long got) {
        CHECK.due(call, want, got);
    }

    // ---- hear, unhear

    private static void hearSeconds() {
        CHECK.words("promise 22: OUTSIDE: second (0 to 9)");
        BellSeconds x = Check.of("TB10");
        for (int second : Check.beyond(0, 9)) {
            due("hear(" + second + ", 0)", OUTSIDE, x.hear(second, 0));
            due("hear(" + second + ", 1)", OUTSIDE, x.hear(second, 1));
            due("hear(" + second + ", 2)", OUTSIDE, x.hear(second, 2));
        }
        due("nothing is heard", 0, x.count(7));
        due("hear(0, 0)", 1, x.hear(0, 0));
        due("hear(9, 0)", 2, x.hear(9, 0));
        due("hear(9, 1)", 3, x.hear(9, 1));
    }

    private static void hearBells() {
        CHECK.words("promise 22: OUTSIDE: bells (bits of BELLS that there are)");
        for (int bells = 0; bells <= 3; bells++) {
            BellSeconds x = Check.of("T" + "B10".repeat(bells));
            int all = (1 << bells) - 1;
            for (int those : Check.beyond(0, all)) due("hear(0, " + those + ")", OUTSIDE, x.hear(0, those));
            for (int bit = bells; bit < 32; bit++) due("hear, bit " + bit, OUTSIDE, x.hear(0, 1 << bit));
            due("nothing is heard", 0, x.count(7));
            for (int those = 0; those <= all; those++) {
                due("hear(0, " + those + ")", 1, x.hear(0, those));
                due("unhear()", 1, x.unhear());
            }
        }
        BellSeconds y = Check.of("TB10B10");
        Check.retell(y, "TB10");
        due("a bell that is gone", OUTSIDE, y.hear(0, 2));
    }

    private static void sixHeard() {
        CHECK.words("HEARD: 6 such at most; promise 22: FULL: 6");
        BellSeconds x = Check.of("TB10P010091");
        for (int n = 1; n <= 6; n++) {
            due("hear", n, x.hear(n, 0));
            due("count(7)", n, x.count(7));
        }
        for (int second = 0; second <= 9; second++) {
            due("hear(" + second + ", 0)", FULL, x.hear(second, 0));
            due("hear(" + second + ", 1)", FULL, x.hear(second, 1));
        }
        CHECK.words("of several the first that a call names: OUTSIDE, then FULL");
        due("hear(10, 0)", OUTSIDE, x.hear(10, 0));
        due("hear(-1, 0)", OUTSIDE, x.hear(-1, 0));
        due("hear(0, 2)", OUTSIDE, x.hear(0, 2));
        due("hear(0, -1)", OUTSIDE, x.hear(0, -1));
        CHECK.words("what is refused changes nothing");
        due("count(7)", 6, x.count(7));
        due("silence in 1 to 6: nobody, or from 0, 7, 8, 9", 5, x.fit(0));
        CHECK.words("the same told twice is two");
        x.unhear();
        for (int n = 1; n <= 6; n++) due("hear(3, 1)", n, x.hear(3, 1));
        due("hear(3, 1)", FULL, x.hear(3, 1));
        due("unhear()", 6, x.unhear());
        due("hear(3, 1)", 1, x.hear(3, 1));
    }

    private static void justSomeBells() {
        CHECK.words("HEARD: that in a SECOND just some BELLS rang (bits)");
        for (int second = 0; second <= 9; second++) {
            for (int those = 0; those < 8; those++) {
                BellSeconds x = Check.of("TB10B10B10P010091P110091P210091");
                x.hear(second, those);
                int days = 1;
                for (int bell = 0; bell < 3; bell++) days *= (those >> bell & 1) == 1 ? 1 : 10;
                due("hear(" + second + ", " + those + "), fit(0)", days, x.fit(0));
                due("fit(1)", those, x.fit(1));
                due("fit(2)", 0, x.fit(2));
            }
        }
        CHECK.words("HEARD: none at first");
        due("all days", 11, Check.of("TB10P010091").fit(0));
        due("count(7)", 0, Check.of("TB10P010091").count(7));
    }

    private static void bellsGone() {
        CHECK.words("HEARD: (of BELLS that there are not any more nothing is looked at)");
        BellSeconds x = Check.of("TB10B10B10P010001P110001P210001");
        x.hear(0, 6);
        due("bells 1 and 2, not 0", 1, x.fit(0));
        Check.retell(x, "TB10B10P010001P110001");
        due("bell 1, not 0", 1, x.fit(0));
        due("surely", 2, x.fit(1));
        due("surely not", 1, x.fit(2));
        Check.retell(x, "TB10P010001");
        due("not bell 0", 1, x.fit(0));
        due("surely not", 1, x.fit(2));
        Check.retell(x, "TQ001");
        due("no bell: nothing is looked at", 2, x.fit(0));
        due("count(7)", 1, x.count(7));
        Check.retell(x, "T");
        due("no bell, nobody", 1, x.fit(0));
        Check.retell(x, "TB10B10B10P010001P110001P210001");
        due("the bells are back", 1, x.fit(0));
        due("surely", 6, x.fit(1));
        x.unhear();
        x.hear(0, 1);
        Check.retell(x, "TB10P010001");
        due("bell 0 rang", 1, x.fit(0));
        Check.retell(x, "TB10B10P010001P110001");
        due("just bell 0 rang", 1, x.fit(1));
        due("not bell 1", 2, x.fit(2));
    }

    private static void unheard() {
        CHECK.words("promise 23: Nothing is HEARD: how many there were");
        for (int many = 0; many <= 6; many++) {
            BellSeconds x = Check.of("TB10P010091");
            for (int n = 0; n < many; n++) x.hear(n, 1);
            due("fit(0)", many == 0 ? 11 : many == 1 ? 1 : 0, x.fit(0));
            due("unhear()", many, x.unhear());
            due("count(7)", 0, x.count(7));
            due("unhear() once more", 0, x.unhear());
            due("all days", 11, x.fit(0));
            due("hear", 1, x.hear(9, 0));
        }
    }

    // ---- fit, likely

    private static void fitBounds() {
        CHECK.words("promise 24: OUTSIDE (what = 0, 1, 2)");
        BellSeconds x = Check.of(EIGHT);
        for (int what : Check.beyond(0, 2)) due("fit(" + what + ")", OUTSIDE, x.fit(what));
        due("fit(0)", 8, x.fit(0));
        due("fit(1)", 0, x.fit(1));
        due("fit(2)", 0, x.fit(2));
        CHECK.words("FIT: DAYS (whoever is LET)");
        x.let(1, 0);
        x.let(2, 1);
        due("fit(0)", 8, x.fit(0));
        due("fit(1)", 0, x.fit(1));
        due("fit(2)", 0, x.fit(2));
    }

    private static void fitNone() {
        CHECK.words("promise 24: NONE (of 1, 2): there is none");
        BellSeconds x = Check.of(EIGHT);
        x.hear(0, 1);
        x.hear(0, 0);
        due("fit(0)", 0, x.fit(0));
        due("fit(1)", NONE, x.fit(1));
        due("fit(2)", NONE, x.fit(2));
        CHECK.words("of several: OUTSIDE is a refusal, NONE is none");
        for (int what : Check.beyond(0, 2)) due("fit(" + what + ")", OUTSIDE, x.fit(what));
        BellSeconds y = Check.of(EIGHT);
        y.hear(2, 1);
        due("nobody rings in 2", 0, y.fit(0));
        due("fit(1)", NONE, y.fit(1));
        y.unhear();
        y.hear(1, 1);
        due("0 rings in 1: alone, or beside 1", 2, y.fit(0));
        due("fit(1)", 1, y.fit(1));
        due("the quiet surely not", 4, y.fit(2));
        BellSeconds z = Check.of("TB20P010011Q111");
        z.hear(0, 1);
        due("a stroke of two seconds rings in 0: no silence in 1", 1, z.fit(0));
        due("the peal surely", 1, z.fit(1));
        due("the quiet surely not", 2, z.fit(2));
    }

    private static void fitAllAndNone() {
        CHECK.words("FIT: who is LET in all, in none (bits)");
        BellSeconds x = Check.of("TB10P010001P010111P010221P010331P010441");
        due("any of five", 32, x.fit(0));
        for (int second = 0; second <= 4; second++) {
            x.hear(second, 1);
            due("fit(0)", 1 << 4 - second, x.fit(0));
            due("fit(1)", (1 << second + 1) - 1, x.fit(1));
            due("fit(2)", 0, x.fit(2));
        }
        x.unhear();
        for (int second = 0; second <= 4; second++) {
            x.hear(second, 0);
            due("fit(0)", 1 << 4 - second, x.fit(0));
            due("fit(1)", 0, x.fit(1));
            due("fit(2)", (1 << second + 1) - 1, x.fit(2));
        }
        BellSeconds never = Check.of("TB30P010019Q001");
        due("one that may begin at none is let in none", 1, never.fit(2));
        due("days", 2, never.fit(0));
        CHECK.words("a DAY is without CLASHES");
        BellSeconds y = Check.of("TB12P010021P010021");
        due("one or none: nobody, three, three", 7, y.fit(0));
        BellSeconds z = Check.of("TB12P010031P010031");
        due("two as well, from 0 and 3 and from 3 and 0", 11, z.fit(0));
        for (String text : new String[] {"TQ001B10P010001", "TB10P010001Q001"}) {
            due(text + ": nobody, or one", 3, Check.of(text).fit(0));
            due(text + ": either may be let", 0, Check.of(text).fit(2));
        }
        due("two for one second: either may be let", 0, Check.of("TB10P010001P010001").fit(2));
        due("two for one second: none surely", 0, Check.of("TB10P010001P010001").fit(1));
        for (int many = 0; many <= 5; many++) {
            BellSeconds quiets = Check.of("T" + "Q091".repeat(many));
            due(many + " quiets", 1 << many, quiets.fit(0));
            due("in all", 0, quiets.fit(1));
            due("in none", 0, quiets.fit(2));
        }
        CHECK.words("FIT: BIDDERS of the TOWER that was are there no more");
        BellSeconds gone = Check.of("TB10P010091P010091Q991Q001P010091");
        Check.retell(gone, "TB10");
        due("fit(0)", 1, gone.fit(0));
        due("fit(2)", 0, gone.fit(2));
        due("unwanted()", 1023, gone.unwanted());
        due("many()", 0, gone.many());
        due("beside()", 0, gone.beside());
        Check.retell(gone, "TB10Q331");
        due("fit(0)", 2, gone.fit(0));
        due("unwanted()", 1023 - 8, gone.unwanted());
        due("rings nothing", 0, gone.let(0, 3) - 1 + gone.count(5));
    }

    private static void likelyBounds() {
        CHECK.words("promise 25: OUTSIDE: second; refusals of FRACTIONS are told likewise");
        BellSeconds x = Check.of("TB10P010001P010991");
        for (int second : Check.beyond(0, 9)) {
            due("likely(" + second + ", true)", OUTSIDE, x.likely(second, true));
            due("likely(" + second + ", false)", OUTSIDE, x.likely(second, false));
        }
        for (int second = 0; second <= 9; second++) {
            boolean edge = second == 0 || second == 9;
            due("likely(" + second + ", true)", edge ? 1 : 0, x.likely(second, true));
            due("likely(" + second + ", false)", edge ? 2 : 1, x.likely(second, false));
        }
    }

    private static void likelyNone() {
        CHECK.words("promise 25: STATE: none FITS");
        BellSeconds x = Check.of(EIGHT);
        x.hear(9, 1);
        for (int second = 0; second <= 9; second++) {
            due("likely(" + second + ", true)", STATE, x.likely(second, true));
            due("likely(" + second + ", false)", STATE, x.likely(second, false));
        }
        CHECK.words("of several the first that a call names: OUTSIDE, then STATE");
        for (int second : Check.beyond(0, 9)) due("likely(" + second + ", true)", OUTSIDE, x.likely(second, true));
        x.unhear();
        due("some fit again", 8, x.likely(0, false));
        due("0 from 0, or 1, with the quiet or not; 1 beside 0 from 1", 5, x.likely(0, true));
    }

    private static void leastTerms() {
        CHECK.words("FRACTIONS are told above (upper = true), below (1 and more), in least terms");
        fraction("T", 5, 0, 1);
        fraction("TQ551", 5, 0, 1);
        fraction("TB10P010551", 5, 1, 2);
        fraction("TB10P010551Q001", 5, 1, 2);
        fraction("TB10P010551P010001P010991P010331P010111", 5, 1, 2);
        fraction("TB10P010551P010551", 5, 2, 3);
        fraction("TB10P010561P010561", 5, 4, 7);
        fraction("TB10B10P010551P110551", 5, 3, 4);
        fraction("TB10B10B10P010551P110551P210551", 5, 7, 8);
        fraction("TB10P010551Q551", 5, 1, 3);
        fraction("TB10P010551Q551Q551", 5, 1, 5);
        fraction("TB10P010551P010551Q551", 5, 1, 2);
        BellSeconds sure = Check.of("TB10P010551Q551");
        sure.hear(5, 1);
        due("surely, above", 1, sure.likely(5, true));
        due("surely, below", 1, sure.likely(5, false));
        sure.unhear();
        sure.hear(5, 0);
        due("surely not, above", 0, sure.likely(5, true));
        due("surely not, below", 1, sure.likely(5, false));
    }

    private static void fraction(String text, int second, int above, int below) {
        BellSeconds x = Check.of(text);
        due(text + " above", above, x.likely(second, true));
        due(text + " below", below, x.likely(second, false));
        if (x.count(2) > 0) x.let(x.count(2) - 1, 5);
        due(text + " above, whoever is let", above, x.likely(second, true));
        due(text + " below, whoever is let", below, x.likely(second, false));
    }

    private static void mostDays() {
        CHECK.words("FIT: how many, of the most that there can be");
        BellSeconds one = Check.of("TB10P010091P010091P010091P010091P010091");
        due("five for ten seconds of one bell", 1 + 50 + 900 + 7200 + 25200 + 30240, one.fit(0));
        due("above", 27545, one.likely(0, true));
        due("below", 63591, one.likely(0, false));
        due("in the last second as in the first", 27545, one.likely(9, true));
        BellSeconds three = Check.of("TB10B10B10P010091P010091P110091P110091P210091");
        due("two, two and one", 111 * 111 * 11, three.fit(0));
        // Nothing rings in a SECOND: 1 + 18 + 72 = 91 ways of two, 10 of one.
        due("above", 135531 - 91 * 91 * 10, three.likely(4, true));
        due("below", 135531, three.likely(4, false));
    }

    // ---- unwanted

    private static void unwantedSeconds() {
        CHECK.words("UNWANTED: SECONDS (bits) in which no PEAL RINGS, wherever it begins, and of which no QUIET wants anything");
        for (int t = 0; t <= 9; t++) {
            for (int u = t; u <= 9; u++) {
                int wanted = (1 << u + 1) - (1 << t);
                due("a quiet " + t + u, 1023 - wanted, Check.of("TQ" + t + u + "1").unwanted());
                due("a peal " + t + u, 1023 - wanted, Check.of("TB10P010" + t + u + "1").unwanted());
                boolean fits = u - t >= 2;
                due("a longer stroke " + t + u, fits ? 1023 - wanted : 1023, Check.of("TB30P010" + t + u + "1").unwanted());
            }
        }
        due("between its strokes, that begin at 0 alone", 1023 - 1 - 16, Check.of("TB10P023041").unwanted());
        due("one second more", 1023 - 1 - 2 - 16 - 32, Check.of("TB10P023051").unwanted());
        due("damped is no ringing", 1023 - 512, Check.of("TB12P010991").unwanted());
        due("damped is no ringing", 1023 - 1, Check.of("TB12P010001").unwanted());
        due("too close", 1023, Check.of("TB12P021091").unwanted());
        due("nobody", 1023, Check.of("TB32B32B32").unwanted());
        due("all", 0, Check.of("TQ041B10P010591").unwanted());
        BellSeconds x = Check.of("TQ009B10P010999");
        due("whoever is let", 1022 - 512, x.unwanted());
        x.let(0, 0);
        x.let(1, 9);
        due("whoever is let", 1022 - 512, x.unwanted());
    }

    // ---- sealed

    private static void sealedBounds() {
        CHECK.words("promise 27: OUTSIDE: a, b (0 to 9), what (0, 1)");
        BellSeconds x = new BellSeconds();
        for (int a : Check.beyond(0, 9)) {
            for (int what = 0; what <= 1; what++) {
                due("sealed(" + a + ", 0, " + what + ")", OUTSIDE, x.sealed(a, 0, what));
                due("sealed(0, " + a + ", " + what + ")", OUTSIDE, x.sealed(0, a, what));
                due("sealed(9, " + a + ", " + what + ")", OUTSIDE, x.sealed(9, a, what));
                due("sealed(" + a + ", " + a + ", " + what + ")", OUTSIDE, x.sealed(a, a, what));
            }
        }
        for (int what : Check.beyond(0, 1)) {
            due("sealed(0, 0, " + what + ")", OUTSIDE, x.sealed(0, 0, what));
            due("sealed(9, 9, " + what + ")", OUTSIDE, x.sealed(9, 9, what));
            due("sealed(10, -1, " + what + ")", OUTSIDE, x.sealed(10, -1, what));
        }
    }

    private static void sealedEdges() {
        CHECK.words("SEALED: who bids more has it for its bid (of like ones the first one); who has it not pays nothing");
        BellSeconds x = new BellSeconds();
        // Who has it would have more by a lower bid that still has it; who has it not, by one that has it for less than its worth.
        int[][] edges = {{0, 0, 1, 0}, {9, 9, 3, 88}, {0, 9, 9, 1}, {9, 0, 10, 0}, {1, 1, 3, 0}, {3, 3, 3, 22}, {7, 4, 5, 33},
            {4, 7, 4, 34}, {1, 0, 2, 0}, {0, 1, 2, 0}, {8, 9, 3, 78}, {9, 8, 3, 77}};
        for (int[] e : edges) {
            due("sealed(" + e[0] + ", " + e[1] + ", 0)", e[2], x.sealed(e[0], e[1], 0));
            due("sealed(" + e[0] + ", " + e[1] + ", 1)", e[3], x.sealed(e[0], e[1], 1));
        }
    }

    /** Told once more by what each may best answer the other's bid with. */
    private static void sealedAll() {
        CHECK.words("RESTS: pairs of bids so that neither has more by another bid alone: how many; the first; NONE");
        BellSeconds x = new BellSeconds();
        for (int a = 0; a <= 9; a++) {
            for (int b = 0; b <= 9; b++) {
                int many = 0, first = NONE;
                for (int pair = 99; pair >= 0; pair--) {
                    if (!oneIsContent(a, pair / 10, pair % 10) || !otherIsContent(b, pair / 10, pair % 10)) continue;
                    many++;
                    first = pair;
                }
                due("sealed(" + a + ", " + b + ", 0)", many, x.sealed(a, b, 0));
                due("sealed(" + a + ", " + b + ", 1)", first, x.sealed(a, b, 1));
            }
        }
    }

    /** The cheapest bid that has it is the other's; below it one has nothing. */
    private static boolean oneIsContent(int worth, int one, int other) {
        int mostByAny = other == 0 ? worth : Math.max(0, worth - other);
        return (one >= other ? worth - one : 0) == mostByAny;
    }

    /** The cheapest bid that has it is one more (if there is such a bid). */
    private static boolean otherIsContent(int worth, int one, int other) {
        int mostByAny = one == 9 ? 0 : Math.max(0, worth - one - 1);
        return (other > one ? worth - other : 0) == mostByAny;
    }

    // ---- seed, day

    private static void seeds() {
        CHECK.words("promise 28: THE SEED is v: what it was; THE SEED, a long; 0 at first");
        BellSeconds x = new BellSeconds();
        long[] seeds = {Long.MIN_VALUE, Long.MAX_VALUE, -1, 0, 1, 1L << 32, -(1L << 32), Integer.MIN_VALUE};
        long was = 0;
        for (long seed : seeds) {
            due("seed(" + seed + ")", was, x.seed(seed));
            was = seed;
        }
        due("the last", Integer.MIN_VALUE, x.seed(0));
    }

    private static void dayBounds() {
        CHECK.words("promise 29: OUTSIDE: m (1 to 20); what is refused changes nothing");
        BellSeconds x = Check.of("TB10P010098Q771Q444P010092");
        x.seed(7);
        for (int m : Check.beyond(1, 20)) due("day(" + m + ")", OUTSIDE, x.day(m));
        due("day(0)", OUTSIDE, x.day(0));
        due("day(21)", OUTSIDE, x.day(21));
        due("the seed stays", 7, x.seed(0));
        due("day(1)", 8, x.day(1));
        due("the seed went on once", MORE, x.seed(0));
        due("day(20)", 14, x.day(20));
        due("the seed went on twenty times", gone(0, 20), x.seed(0));
    }

    private static long gone(long seed, int times) {
        long x = seed;
        for (int time = 0; time < times; time++) x = x * TIMES + MORE;
        return x;
    }

    private static void dayTimes() {
        CHECK.words("m times x becomes x times 6364136223846793005 and 1442695040888963407 (64 bits, wrapping)");
        long[] seeds = {0, 1, -1, Long.MIN_VALUE, Long.MAX_VALUE, 123456789L, -987654321987654321L};
        for (long seed : seeds) {
            for (int m = 1; m <= 20; m++) {
                BellSeconds x = new BellSeconds();
                x.seed(seed);
                due("day(" + m + ") of nobody", 0, x.day(m));
                due("the seed", gone(seed, m), x.seed(0));
            }
        }
    }

    /** A DAY of QUIETS, told once more: of a BIDDER and a SECOND that are drawn at once one is LET, if it begins there. */
    private static void dayDraws() {
        CHECK.words("its upper 31 bits by 50, what is left: by 10 a BIDDER, what is left of that a SECOND: that one is LET"
                + " beside those that are by then, if there is such a BIDDER and it can be");
        int[] begins = {0, 9, 4, 5, 7};
        for (int bidders = 1; bidders <= 5; bidders++) {
            String text = "TQ001Q992Q444Q558Q779".substring(0, 1 + 4 * bidders);
            int[] coins = {1, 2, 4, 8, 9};
            for (long seed = -60; seed <= 60; seed++) {
                BellSeconds x = Check.of(text);
                x.seed(seed * 0x123456789ABCDEFL);
                int m = 1 + Math.floorMod((int) seed, 20), worth = 0;
                boolean[] isLet = new boolean[5];
                for (int time = 1; time <= m; time++) {
                    long drawn = Long.remainderUnsigned(gone(seed * 0x123456789ABCDEFL, time) >>> 33, 50);
                    int bidder = (int) drawn / 10, second = (int) drawn % 10;
                    if (bidder >= bidders || isLet[bidder] || begins[bidder] != second) continue;
                    isLet[bidder] = true;
                    worth += coins[bidder];
                }
                due("day(" + m + ")", worth, x.day(m));
                CHECK.words("(Nothing changes but THE SEED.)");
                due("nobody is let", 0, x.count(3));
                due("no act", 0, x.count(6));
            }
        }
        CHECK.words("if there is such a BIDDER: of those of the TOWER that was there is none");
        for (long seed = 0; seed < 100; seed++) {
            BellSeconds gone = Check.of("TB10P010099P010099P010099P010099P010099");
            Check.retell(gone, "TB10Q001");
            gone.let(0, 0);
            gone.seed(seed);
            due("day(20)", 1, gone.day(20));
        }
        BellSeconds x = Check.of("TQ009B10P010095");
        x.let(0, 0);
        x.let(1, 3);
        due("those that are let are let already", 14, x.day(20));
    }

    // ---- slots

    private static void slotBounds() {
        CHECK.words("SLOTS 0 to 1; promises 30, 31: UNKNOWN; STATE: none were kept");
        BellSeconds x = Check.of("TB10P010095");
        x.let(0, 3);
        for (int slot : Check.beyond(0, 1)) {
            due("keep(" + slot + ")", UNKNOWN, x.keep(slot));
            due("again(" + slot + ")", UNKNOWN, x.again(slot));
        }
        due("again(0)", STATE, x.again(0));
        due("again(1)", STATE, x.again(1));
        due("it is let still", 3, x.bidder(0, 6));
        due("its act is there", 1, x.count(6));
        due("keep(1)", 5, x.keep(1));
        due("again(0)", STATE, x.again(0));
        due("the act is there", 1, x.count(6));
        due("keep(0)", 5, x.keep(0));
        for (int slot : Check.beyond(0, 1)) due("again(" + slot + ")", UNKNOWN, x.again(slot));
        due("again(0)", 5, x.again(0));
        due("again(1)", 5, x.again(1));
    }

    private static void keptDays() {
        CHECK.words("SLOTS keep who is LET from which SECOND (THE ROW of ACTS is empty when one goes on)");
        BellSeconds x = Check.of("TB10P010095Q994");
        due("nobody", 0, x.keep(0));
        x.let(0, 3);
        x.let(1, 9);
        due("both", 9, x.keep(1));
        due("to keep is no act, and forgets none", 2, x.count(6));
        due("nobody again", 0, x.again(0));
        due("nobody", 0, x.count(3));
        due("no act", 0, x.count(6));
        due("undo()", STATE, x.undo());
        x.let(0, 9);
        due("both again", 9, x.again(1));
        due("from 3", 3, x.bidder(0, 6));
        due("from 9", 9, x.bidder(1, 6));
        due("undo()", STATE, x.undo());
        due("move", 3, x.move(0, 4));
        due("undo()", 0, x.undo());
        due("from 3", 3, x.bidder(0, 6));
        due("undo() beyond it", STATE, x.undo());
        x.revoke(1);
        due("kept over", 5, x.keep(1));
        due("the other is as it was", 0, x.again(0));
        due("as kept last", 5, x.again(1));
        due("a slot may be gone on from twice", 5, x.again(1));
        x.hear(0, 0);
        x.seed(5);
        x.write('B');
        x.again(0);
        due("what is heard stays", 1, x.count(7));
        due("the text stays", 16, x.count(0));
        due("the seed stays", 5, x.seed(0));
    }

    // ---- count

    private static void countBounds() {
        CHECK.words("promise 32: OUTSIDE (what = 0 to 7)");
        BellSeconds x = Check.of("TB10B10P010095P110094Q003");
        for (int what : Check.beyond(0, 7)) due("count(" + what + ")", OUTSIDE, x.count(what));
        x.let(0, 9);
        x.let(1, 1);
        x.let(2, 0);
        x.hear(0, 0);
        int[] counts = {25, 2, 3, 7, 12, 512 + 2, 3, 1};
        for (int what = 0; what <= 7; what++) due("count(" + what + ")", counts[what], x.count(what));
        x.move(0, 1);
        due("two bells in one second", 2, x.count(5));
        BellSeconds most = Check.of("TB32B32B32P033099P133099P233099Q009Q009");
        due("nine seconds rung and six between are too many", 0, most.bidder(0, 7));
        BellSeconds all = Check.of("TB32B10B32P012099P130099Q559P233099Q669");
        all.let(0, 0);
        all.let(1, 7);
        due("0 to 2 and 7 to 9", 7 + 896, all.count(5));
        due("worth", 18, all.count(4));
        all.let(2, 5);
        all.let(4, 6);
        due("who", 23, all.count(3));
        due("worth", 36, all.count(4));
    }
}
