/** Bounds of part 2 of the document (promises 14 to 21). */
public final class LettingBoundsTests {
    private static final int UNKNOWN = Check.UNKNOWN, OUTSIDE = Check.OUTSIDE, STATE = Check.STATE, NONE = Check.NONE;
    private static final Check CHECK = new Check();
    /** One bell; 0 wants seconds 0 and 1 (for 5), 1 wants 0 (for 2), 2 wants 1 (for 3). */
    private static final String LIKE = "TB10P020015P010002P010113";

    public static void main(String[] args) {
        those();
        bestOfSome();
        firstBestDay();
        firstOfSeconds();
        bestDayOfNobody();
        unknownBidders();
        besideWhatIsLet();
        prices();
        manyAtOnce();
        roomBounds();
        roomForOne();
        roomOfLikeOnes();
        handsOfTwo();
        handsOfMore();
        judgedBounds();
        judgedFigures();
        judgedPlaces();
        CHECK.end();
    }

    private static void due(String call, long want, long got) {
        CHECK.due(call, want, got);
    }

    // ---- best, bestOf

    private static void those() {
        CHECK.words("promise 14: OUTSIDE: those (bits of BIDDERS that there are)");
        for (int many = 0; many <= 5; many++) {
            BellSeconds x = Check.of("T" + "Q001".repeat(many));
            int all = (1 << many) - 1;
            for (int those = 0; those <= all; those++) due("best(" + those + ")", Integer.bitCount(those), x.best(those));
            for (int those : Check.beyond(0, all)) due("best(" + those + ")", OUTSIDE, x.best(those));
            for (int bit = many; bit < 32; bit++) due("best, bit " + bit, OUTSIDE, x.best(1 << bit));
            due("best, all and one more", OUTSIDE, x.best(all | 1 << many));
        }
        BellSeconds y = Check.of("TQ001Q001");
        Check.retell(y, "TQ001");
        due("bidders that were are none", OUTSIDE, y.best(2));
    }

    private static void bestOfSome() {
        CHECK.words("THE BEST of some BIDDERS: the most WORTH of a DAY in which just some of them are LET");
        BellSeconds x = Check.of(LIKE);
        int[] best = {0, 5, 2, 5, 3, 5, 5, 5};
        for (int those = 0; those < 8; those++) due("best(" + those + ")", best[those], x.best(those));
        x.let(1, 0);
        for (int those = 0; those < 8; those++) due("best(" + those + "), whoever is let", best[those], x.best(those));
        due("five of the most coins", 45, Check.of("TQ099Q099Q099Q099Q099").best(31));
        due("one of the fewest", 1, Check.of("TQ991").best(1));
        due("one that may begin at none", 0, Check.of("TB30P010019").best(1));
    }

    private static void firstBestDay() {
        CHECK.words("THE BEST DAY: of those of all that have it the first by BIDDERS (0 first, then SECONDS)");
        bestDay(LIKE, NONE, 0, 1);
        bestDay("TB10P020016P010002P010113", 0, NONE, NONE);
        bestDay("TB10P020014P010002P010113", NONE, 0, 1);
        bestDay("TB10P010004P010004", NONE, 0);
        bestDay("TB10P010004P010003", 0, NONE);
        bestDay("TB10P010003P010004", NONE, 0);
        bestDay("TB10P010004P010004P010004", NONE, NONE, 0);
        bestDay("TB10P010001Q001", NONE, 0);
        bestDay("TB10Q001P010001", NONE, 0);
        bestDay("TB10Q002P010001", 0, NONE);
        bestDay("TQ001Q991Q551", 0, 9, 5);
        bestDay("TB30P010019Q009", NONE, 0);
        bestDay("TB10P010113P010003Q013Q012", 1, 0, NONE, NONE);
        bestDay("TB10P010113P010002Q013Q013", NONE, NONE, 0, 0);
        bestDay("TB10P010114P010004Q014Q014", NONE, NONE, 0, 0);
        bestDay("TB10P010114P010005Q014Q014", 1, 0, NONE, NONE);
    }

    private static void firstOfSeconds() {
        CHECK.words("THE BEST DAY: the first by BIDDERS (then SECONDS)");
        bestDay("TB10P010091P010091P010091", 0, 1, 2);
        bestDay("TB10P010591P010551", 6, 5);
        bestDay("TB10P010591P010661", 5, 6);
        bestDay("TB10P010991", 9);
        bestDay("TB10P010091Q081", 9, 0);
        bestDay("TB32P010091P010091", 0, 5);
        bestDay("TB31P010091P010071", 0, 4);
        bestDay("TB31P010091P010061", 0, 4);
        bestDay("TB31P010091P010051", 4, 0);
    }

    private static void bestDayOfNobody() {
        CHECK.words("THE BEST DAY of BIDDERS that may begin at none: nobody is LET, whoever was by that of another TOWER");
        BellSeconds x = Check.of("TB10P010005Q994");
        due("bestOf(0)", 0, x.bestOf(0));
        due("bestOf(1)", 9, x.bestOf(1));
        Check.retell(x, "TB30P010019P020009");
        for (int bidder = 0; bidder < 2; bidder++) {
            due("bestOf(" + bidder + ")", NONE, x.bestOf(bidder));
            due("price(" + bidder + ")", NONE, x.price(bidder));
        }
        due("best(3)", 0, x.best(3));
        due("beside()", 0, x.beside());
        Check.retell(x, "TB10P010005Q994");
        due("bestOf(0)", 0, x.bestOf(0));
    }

    private static void bestDay(String text, int... seconds) {
        BellSeconds x = Check.of(text);
        for (int bidder = 0; bidder < seconds.length; bidder++) {
            due(text + " bestOf(" + bidder + ")", seconds[bidder], x.bestOf(bidder));
        }
        for (int bidder = 0; bidder < seconds.length; bidder++) {
            boolean none = seconds[bidder] == NONE;
            due(text + " price(" + bidder + ") is NONE just then", none ? 1 : 0, x.price(bidder) == NONE ? 1 : 0);
        }
        due("nobody is let by that", 0, x.count(3));
    }

    private static void unknownBidders() {
        CHECK.words("promises 15, 17, 19: UNKNOWN (there is no such BIDDER)");
        for (int many = 0; many <= 5; many++) {
            BellSeconds x = Check.of("T" + "Q001".repeat(many));
            for (int bidder : Check.beyond(0, many - 1)) {
                due("bestOf(" + bidder + ")", UNKNOWN, x.bestOf(bidder));
                due("price(" + bidder + ")", UNKNOWN, x.price(bidder));
                for (int what = -1; what <= 2; what++) due("room(" + bidder + ", " + what + ")", UNKNOWN, x.room(bidder, what));
            }
            for (int bidder = 0; bidder < many; bidder++) {
                due("bestOf(" + bidder + ")", 0, x.bestOf(bidder));
                due("price(" + bidder + ")", 0, x.price(bidder));
                due("room(" + bidder + ", 0)", 0, x.room(bidder, 0));
            }
        }
    }

    // ---- beside, price, many

    private static void besideWhatIsLet() {
        CHECK.words("BESIDE: the most WORTH more, if those that are LET stay as they are");
        BellSeconds x = Check.of(LIKE);
        due("beside nobody: the best", 5, x.beside());
        x.let(0, 0);
        due("nothing fits beside it", 0, x.beside());
        x.revoke(0);
        x.let(1, 0);
        due("beside 1", 3, x.beside());
        x.let(2, 1);
        due("beside both", 0, x.beside());
        BellSeconds all = Check.of("TQ001Q111Q221Q331Q449");
        for (int bidder = 0; bidder < 5; bidder++) {
            due("beside " + bidder, 13 - bidder, all.beside());
            all.let(bidder, bidder);
        }
        due("all are let", 0, all.beside());
        CHECK.words("those LET stay: they are not moved");
        BellSeconds stay = Check.of("TB10P010011P010009");
        stay.let(0, 0);
        due("it stays in 0", 0, stay.beside());
        stay.move(0, 1);
        due("it stays in 1", 9, stay.beside());
        BellSeconds damped = Check.of("TB12P010091P010335P010224");
        damped.let(0, 0);
        due("just behind what is damped", 5, damped.beside());
        damped.move(0, 1);
        due("while it is damped", 0, damped.beside());
        besideTwo("TB10P010001P010111P010019", 0, 0);
        besideTwo("TB10P010001P010111P010119", 0, 0);
        besideTwo("TB10P010001P010111P010229", 9, 9);
        besideTwo("TB10P010001P010111P010028", 8, 8);
        besideTwo("TQ001Q111B10P010019", 0, 0);
        besideTwo("TQ001Q111B10P010009", 0, 0);
        besideTwo("TQ001Q111B10P010119", 0, 0);
        besideTwo("TQ001Q111B10P010029", 9, 9);
        besideTwo("TB10P010001B10P110111Q119", 0, 9);
        besideTwo("TB10B10P110001P010111Q009", 0, 9);
    }

    /** 0 from 0 and 1 from 1 are LET; then the one that is in the way of the third goes, or both are in the way of none. */
    private static void besideTwo(String text, int besideBoth, int besideLess) {
        BellSeconds x = Check.of(text);
        if (x.let(0, 0) < 0 || x.let(1, 1) < 0) due(text + " let", 1, STATE);
        due(text + " beside both", besideBoth, x.beside());
        if (besideLess == besideBoth) return;
        boolean firstGoes = text.endsWith("Q009");
        x.revoke(firstGoes ? 0 : 1);
        due(text + " beside one, and that that went", besideLess, x.beside());
    }

    private static void prices() {
        CHECK.words("PRICE of a BIDDER: what THE BEST of all others is more than what all others have by THE BEST DAY;"
                + " NONE: it is not LET by that");
        price(LIKE, NONE, 2, 3);
        price("TB10P020016P010002P010113", 5, NONE, NONE);
        price("TB10P020014P010002P010113", NONE, 1, 2);
        price("TB10P010004P010004", NONE, 4);
        price("TB10P010009P010008", 8, NONE);
        price("TB10P010009", 0);
        price("TB30P010019", NONE);
        price("TQ009Q009", 0, 0);
        price("TB10P010009Q001Q001Q001", 3, NONE, NONE, NONE);
        price("TB10P010002Q001Q001Q001", NONE, 0, 0, 0);
        price("TB10P010003Q001Q001Q001", NONE, 1, 1, 1);
        BellSeconds x = Check.of(LIKE);
        x.let(0, 0);
        due("whoever is let", 2, x.price(1));
        due("whoever is let", NONE, x.price(0));
    }

    private static void price(String text, int... prices) {
        BellSeconds x = Check.of(text);
        for (int bidder = 0; bidder < prices.length; bidder++) {
            due(text + " price(" + bidder + ")", prices[bidder], x.price(bidder));
        }
    }

    private static void manyAtOnce() {
        CHECK.words("MANY: the most BIDDERS that can be LET in one DAY");
        for (int many = 0; many <= 5; many++) {
            due(many + " quiets", many, Check.of("T" + "Q099".repeat(many)).many());
            due(many + " peals of two seconds", many, Check.of("TB20" + "P010099".repeat(many)).many());
            due(many + " peals, damped: four have room", Math.min(4, many), Check.of("TB12" + "P010099".repeat(many)).many());
            due(many + " peals, damped: three have room", Math.min(3, many), Check.of("TB12" + "P010089".repeat(many)).many());
            due(many + " peals for one second", Math.min(1, many), Check.of("TB10" + "P010559".repeat(many)).many());
            due(many + " that may begin at none", 0, Check.of("TB30" + "P010019".repeat(many)).many());
        }
        BellSeconds x = Check.of("TB10P020019P010001P010111");
        due("two of little worth", 2, x.many());
        x.let(0, 0);
        due("whoever is let", 2, x.many());
    }

    // ---- room

    private static void roomBounds() {
        CHECK.words("promise 19: OUTSIDE (what = 0, 1); STATE: it is LET");
        BellSeconds x = Check.of("TB10P010011P010012");
        for (int what : Check.beyond(0, 1)) due("room(0, " + what + ")", OUTSIDE, x.room(0, what));
        due("room(0, 0)", 0, x.room(0, 0));
        due("room(0, 1)", 0, x.room(0, 1));
        x.let(0, 0);
        due("let: room(0, 0)", STATE, x.room(0, 0));
        due("let: room(0, 1)", STATE, x.room(0, 1));
        CHECK.words("of several the first that a call names: UNKNOWN, OUTSIDE, STATE");
        for (int what : Check.beyond(0, 1)) {
            due("let: room(0, " + what + ")", OUTSIDE, x.room(0, what));
            due("room(2, " + what + ")", UNKNOWN, x.room(2, what));
        }
        x.revoke(0);
        due("not let any more", 0, x.room(0, 0));
        CHECK.words("ROOM; NONE: it may begin at none");
        BellSeconds none = Check.of("TB30P010019Q019");
        due("room(0, 0)", NONE, none.room(0, 0));
        due("room(0, 1)", NONE, none.room(0, 1));
        none.let(1, 0);
        due("whoever is let", NONE, none.room(0, 0));
        due("what 2", OUTSIDE, none.room(0, 2));
    }

    private static void room(BellSeconds x, int bidder, int worth, int second) {
        due("room(" + bidder + ", 0)", worth, x.room(bidder, 0));
        due("room(" + bidder + ", 1)", second, x.room(bidder, 1));
    }

    private static void roomForOne() {
        CHECK.words("ROOM: the least WORTH of those LET that must be REVOKED, so that it may be LET from some SECOND");
        BellSeconds x = Check.of(LIKE);
        x.let(1, 0);
        room(x, 0, 2, 0);
        x.let(2, 1);
        room(x, 0, 5, 0);
        x.revoke(1);
        room(x, 0, 3, 0);
        room(x, 1, 0, 0);
        due("nobody is revoked by that", 4, x.count(3));
        BellSeconds bells = Check.of("TB10B10B10P010552P110553P210554Q561Q569");
        for (int bidder = 0; bidder < 3; bidder++) bells.let(bidder, 5);
        room(bells, 3, 9, 5);
        bells.revoke(1);
        room(bells, 4, 6, 5);
        BellSeconds quiets = Check.of("TQ449Q458Q669B10P010461");
        quiets.let(0, 4);
        quiets.let(1, 4);
        quiets.let(2, 6);
        room(quiets, 3, 8, 5);
        BellSeconds damped = Check.of("TB12P010094P010013P010021");
        damped.let(0, 3);
        room(damped, 1, 0, 0);
        damped.move(0, 2);
        room(damped, 1, 4, 0);
        BellSeconds most = Check.of("TB10Q059Q059Q059Q059P010001");
        for (int bidder = 0; bidder < 4; bidder++) most.let(bidder, 0);
        room(most, 4, 36, 0);
    }

    private static void roomOfLikeOnes() {
        CHECK.words("ROOM: from which (the first of like ones)");
        BellSeconds x = Check.of("TB10P010003P010113P010222P010332P010031");
        room(x, 4, 0, 0);
        x.let(0, 0);
        room(x, 4, 0, 1);
        x.let(1, 1);
        room(x, 4, 0, 2);
        x.let(2, 2);
        room(x, 4, 0, 3);
        x.let(3, 3);
        room(x, 4, 2, 2);
        x.revoke(0);
        room(x, 4, 0, 0);
        BellSeconds last = Check.of("TB10P010899P010891");
        last.let(0, 8);
        room(last, 1, 0, 9);
        BellSeconds like = Check.of("TB10P010883P010993P010891");
        like.let(0, 8);
        like.let(1, 9);
        room(like, 2, 3, 8);
    }

    // ---- hands

    private static void handsOfTwo() {
        CHECK.words("HANDS: one rings a stroke in all its SECONDS (not while it is damped), walks from BELL i to BELL j in as"
                + " many SECONDS as i and j differ (0: the same), and rings the next one then at the soonest");
        int[][] rings = {{1, 1, 1}, {2, 1, 3}, {3, 2, 1}, {1, 3, 2}};
        for (int[] r : rings) {
            for (int damp = 0; damp <= 2; damp++) {
                String bells = "TB" + r[0] + damp + "B" + r[1] + damp + "B" + r[2] + damp;
                for (int i = 0; i < 3; i++) {
                    for (int j = 0; j < 3; j++) twoStrokes(bells + "P" + i + "10091P" + j + "10091", r[i], r[j], Math.abs(i - j));
                }
            }
        }
    }

    private static void twoStrokes(String text, int ring, int ringOther, int walk) {
        BellSeconds x = Check.of(text);
        for (int one = 0; one + ring <= 10; one++) {
            for (int other = 0; other + ringOther <= 10; other++) {
                if (other % 4 == 0) x = Check.of(text);
                if (x.let(0, one) < 0) due("let", 1, STATE);
                due("one stroke", 1, x.hands());
                if (x.let(1, other) > 0) {
                    boolean oneHand = one + ring + walk <= other || other + ringOther + walk <= one;
                    due(text + " from " + one + " and " + other, oneHand ? 1 : 2, x.hands());
                    x.revoke(1);
                }
                x.revoke(0);
            }
        }
    }

    private static void handsOfMore() {
        CHECK.words("HANDS: the fewest ringers that ring all strokes of PEALS that are LET");
        due("nobody", 0, new BellSeconds().hands());
        BellSeconds quiet = Check.of("TQ091Q091");
        quiet.let(0, 0);
        quiet.let(1, 0);
        due("quiets alone", 0, quiet.hands());
        BellSeconds all = Check.of("TB10B10B10P030091P130091P230091P030391P130391");
        int[] hands = {1, 2, 3, 3, 3};
        int[] seconds = {0, 0, 0, 3, 3};
        for (int bidder = 0; bidder < 5; bidder++) {
            all.let(bidder, seconds[bidder]);
            due("fifteen strokes, " + (bidder + 1) + " peals", hands[bidder], all.hands());
        }
        int[] handsLeft = {2, 2, 1, 1, 0};
        for (int k = 0; k < 5; k++) {
            all.revoke(new int[] {2, 1, 4, 3, 0}[k]);
            due("strokes that are rung no more need no hand, " + (4 - k) + " peals", handsLeft[k], all.hands());
        }
        BellSeconds gone = Check.of("TB10B10P010091P110091");
        gone.let(0, 5);
        gone.let(1, 3);
        due("from 3 on bell 1 to 5 on bell 0", 1, gone.hands());
        gone.revoke(1);
        gone.move(0, 0);
        due("one stroke, nobody comes or goes on from it", 1, gone.hands());
        BellSeconds last = Check.of("TB10B10B10P030091P030091P030091P130091P233091");
        int[] begins = {0, 3, 6, 7, 1};
        for (int bidder = 0; bidder < 5; bidder++) last.let(bidder, begins[bidder]);
        due("the fifteenth stroke needs a hand of its own: in 9 two bells off, or one that rings", 3, last.hands());
        last.move(4, 0);
        due("in 8 all three bells ring", 3, last.hands());
        BellSeconds early = Check.of("TB10B10P030091P030091P030091P130091P130091");
        int[] from = {1, 4, 7, 3, 0};
        for (int bidder = 0; bidder < 5; bidder++) early.let(bidder, from[bidder]);
        due("who rings the fifteenth stroke, in 2, goes on", 2, early.hands());
        early.move(3, 4);
        due("and waits", 2, early.hands());
        BellSeconds walks = Check.of("TB10B10B10P030091P210091P110091");
        walks.let(0, 0);
        walks.let(1, 5);
        due("three strokes, two seconds to walk", 1, walks.hands());
        walks.move(1, 4);
        due("one second less", 2, walks.hands());
        walks.let(2, 8);
        due("either goes on", 2, walks.hands());
        BellSeconds gaps = Check.of("TB10B10P033091P131191");
        gaps.let(0, 0);
        gaps.let(1, 2);
        due("in 0, 4, 8 and in 2, 4, 6: both bells in 4", 2, gaps.hands());
        BellSeconds between = Check.of("TB10B10P023091P110091");
        between.let(0, 0);
        between.let(1, 2);
        due("one step there, one step back", 1, between.hands());
        between.move(1, 1);
        due("no time to walk there", 2, between.hands());
        between.move(1, 3);
        due("no time to walk back", 2, between.hands());
    }

    // ---- judge

    private static void judgedBounds() {
        CHECK.words("JUDGED: n things (1 to 5); promise 21: OUTSIDE: n");
        BellSeconds x = Check.of("TQ001Q111Q221Q331Q441");
        long[] rows = {0, 11, 1122, 112233, 11223344};
        for (int n : Check.beyond(1, 5)) for (long row : rows) due("judge(" + n + ", " + row + ")", OUTSIDE, x.judge(n, row));
        due("judge(0, 0)", OUTSIDE, x.judge(0, 0));
        due("judge(6, 0)", OUTSIDE, x.judge(6, 0));
        due("judge(1, 0)", NONE, x.judge(1, 0));
        due("judge(5, 11223344)", NONE, x.judge(5, 11223344));
        due("nobody is let by that", 0, x.count(3));
        due("no act", 0, x.count(6));
    }

    private static void judgedFigures() {
        CHECK.words("promise 21: OUTSIDE: row (0 or more, 2 n figures at most)");
        BellSeconds x = Check.of("TQ001Q991");
        long beyond = 1;
        for (int n = 1; n <= 5; n++) {
            beyond *= 100;
            due("judge(" + n + ", 0)", n == 1 ? NONE : 1, x.judge(n, 0));
            due("all figures 9", 0, x.judge(n, beyond - 1));
            due("one more", OUTSIDE, x.judge(n, beyond));
            due("and one more", OUTSIDE, x.judge(n, beyond + 1));
            due("10 times", OUTSIDE, x.judge(n, beyond * 10));
            due("-1", OUTSIDE, x.judge(n, -1));
            due("minus what would be inside", OUTSIDE, x.judge(n, 1 - beyond));
            due("the least", OUTSIDE, x.judge(n, Long.MIN_VALUE));
            due("the most", OUTSIDE, x.judge(n, Long.MAX_VALUE));
            due("beyond an int", n < 5 ? OUTSIDE : 0, x.judge(n, 1L << 32));
            due("far beyond an int", OUTSIDE, x.judge(n, 1L << 40));
            due("far beyond an int, its lower bits 0", OUTSIDE, x.judge(n, 1L << 62));
        }
        CHECK.words("of several: n or row, OUTSIDE");
        due("judge(0, -1)", OUTSIDE, x.judge(0, -1));
        due("judge(6, -1)", OUTSIDE, x.judge(6, -1));
        due("judge(6, 999999999999)", OUTSIDE, x.judge(6, 999999999999L));
    }

    private static void judgedPlaces() {
        CHECK.words("JUDGED: one behind the other LET beside those that are: the place of the first that can not be; NONE: none");
        BellSeconds x = Check.of("TQ001Q111Q221Q331Q441");
        due("five", NONE, x.judge(5, 4433221100L));
        due("five, the other way", NONE, x.judge(5, 11223344L));
        due("place 0", 0, x.judge(5, 4533221100L));
        due("place 1", 1, x.judge(5, 4434221100L));
        due("place 2", 2, x.judge(5, 4433231100L));
        due("place 3", 3, x.judge(5, 4433221200L));
        due("place 4", 4, x.judge(5, 4433221101L));
        due("the first of two", 1, x.judge(5, 4432221101L));
        due("twice the same", 1, x.judge(2, 1111));
        due("the same later", 4, x.judge(5, 4433221144L));
        CHECK.words("JUDGED: a BIDDER that there is not can not be");
        due("bidder 5", 0, x.judge(1, 50));
        due("bidder 9", 1, x.judge(2, 1199));
        due("on a tower of nobody", 0, new BellSeconds().judge(1, 0));
        CHECK.words("JUDGED: beside those that are");
        x.let(2, 2);
        due("one that is let", 0, x.judge(1, 22));
        due("one that is let, at the second place", 1, x.judge(2, 1122));
        due("the others", NONE, x.judge(4, 113344));
        BellSeconds y = Check.of("TB11P010091P010092Q993");
        due("just behind what is damped", NONE, y.judge(2, 12));
        due("while it is damped", 1, y.judge(2, 11));
        due("the same day told the other way", 1, y.judge(2, 1100));
        y.let(2, 9);
        due("into the quiet that is let", 0, y.judge(1, 9));
        due("beside it", NONE, y.judge(1, 8));
        due("nothing has changed", 4, y.count(3));
        CHECK.words("JUDGED: told as two figures each (a BIDDER, a SECOND)");
        BellSeconds z = Check.of("TB10P010991Q001P010991P010881Q881");
        int[][] canBe = {{9}, {0}, {9}, {8}, {8}};
        for (int bidder = 0; bidder <= 9; bidder++) {
            for (int second = 0; second <= 9; second++) {
                boolean can = bidder < 5 && canBe[bidder][0] == second;
                due("judge(1, " + bidder + second + ")", can ? NONE : 0, z.judge(1, 10 * bidder + second));
            }
        }
        CHECK.words("JUDGED: a BIDDER that there is not any more can not be");
        Check.retell(z, "TB10P010991");
        for (int bidder = 1; bidder <= 4; bidder++) {
            for (int second = 0; second <= 9; second++) due("judge", 0, z.judge(1, 10 * bidder + second));
        }
        due("the one that there is", NONE, z.judge(1, 9));
    }
}
