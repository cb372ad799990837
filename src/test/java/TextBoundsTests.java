/** Bounds of part 1 of the document that THE TEXT and THE TOWER have (promises 1 to 7). */
public final class TextBoundsTests {
    private static final int UNKNOWN = Check.UNKNOWN, OUTSIDE = Check.OUTSIDE, STATE = Check.STATE;
    private static final int FULL = Check.FULL, NONE = Check.NONE;
    private static final Check CHECK = new Check();
    private static final String FIGURES = "0123456789";
    /** The longest TOWER that there is. */
    private static final String LONGEST = "TB32B31B30P231099P131188P031277P233366P132455";

    public static void main(String[] args) {
        newObject();
        letters();
        fullText();
        wiped();
        firstLetter();
        bellLetters();
        pealLetters();
        quietLetters();
        kindsOfParts();
        bellsToldAhead();
        mostBells();
        mostBidders();
        everyBeginning();
        whateverCameBehind();
        lengthSetAside();
        towersOfEachSize();
        towersRefused();
        towerAnew();
        numberedAsTold();
        everyBell();
        everyBidder();
        whats();
        CHECK.end();
    }

    private static void due(String call, long want, long got) {
        CHECK.due(call, want, got);
    }

    private static String bells(int many) {
        return "B10".repeat(many);
    }

    private static String quiets(int many) {
        return "Q001".repeat(many);
    }

    // ---- a new object

    private static void newObject() {
        CHECK.words("promise 1: No bells, nobody; At first THE TOWER is T");
        BellSeconds x = new BellSeconds();
        for (int what = 0; what <= 7; what++) due("count(" + what + ")", 0, x.count(what));
        due("fault()", 0, x.fault());
        due("tower()", STATE, x.tower());
        due("bell(0, 0)", UNKNOWN, x.bell(0, 0));
        due("bidder(0, 0)", UNKNOWN, x.bidder(0, 0));
        for (int second = 0; second <= 9; second++) due("rings(" + second + ")", 0, x.rings(second));
        due("best(0)", 0, x.best(0));
        due("best(1)", OUTSIDE, x.best(1));
        due("beside()", 0, x.beside());
        due("many()", 0, x.many());
        due("hands()", 0, x.hands());
        due("fit(0): the day of nobody", 1, x.fit(0));
        due("fit(1)", 0, x.fit(1));
        due("fit(2)", 0, x.fit(2));
        due("unwanted()", Check.ALL_SECONDS, x.unwanted());
        due("undo()", STATE, x.undo());
        due("again(0)", STATE, x.again(0));
        due("again(1)", STATE, x.again(1));
        due("unhear()", 0, x.unhear());
        due("seed(5)", 0, x.seed(5));
        due("wipe()", 0, x.wipe());
    }

    // ---- write, wipe

    private static void letters() {
        CHECK.words("promise 2: A letter (0 to 255) comes behind THE TEXT: how long it is. OUTSIDE");
        for (int letter = 0; letter <= 255; letter++) {
            due("write(" + letter + ")", 1, new BellSeconds().write(letter));
        }
        BellSeconds x = new BellSeconds();
        for (int letter : Check.beyond(0, 255)) due("write(" + letter + ")", OUTSIDE, x.write(letter));
        due("count(0)", 0, x.count(0));
        due("write('T')", 1, x.write('T'));
        for (int letter : Check.beyond(0, 255)) due("write(" + letter + ")", OUTSIDE, x.write(letter));
        due("the text is T still", NONE, x.fault());
        CHECK.words("a letter that wraps is none: 256 + 'T' is not T");
        due("write(256 + 'T')", OUTSIDE, new BellSeconds().write(256 + 'T'));
        due("write('T' - 256)", OUTSIDE, new BellSeconds().write('T' - 256));
        due("write(65536 + 'T')", OUTSIDE, new BellSeconds().write(65536 + 'T'));
    }

    private static void fullText() {
        CHECK.words("promise 2: FULL: there are 48");
        BellSeconds x = new BellSeconds();
        Check.tell(x, LONGEST);
        due("the longest tower is one", NONE, x.fault());
        due("46th", 46, x.write('B'));
        due("47th", 47, x.write('1'));
        due("48th", 48, x.write('0'));
        for (int letter = 0; letter <= 255; letter++) due("49th: write(" + letter + ")", FULL, x.write(letter));
        CHECK.words("of several the first that a call names: OUTSIDE, then FULL");
        for (int letter : Check.beyond(0, 255)) due("49th: write(" + letter + ")", OUTSIDE, x.write(letter));
        CHECK.words("what is refused changes nothing");
        due("count(0)", 48, x.count(0));
        due("fault()", LONGEST.length(), x.fault());
        due("tower()", STATE, x.tower());
        due("wipe()", 48, x.wipe());
        due("write('T')", 1, x.write('T'));
        due("fault()", NONE, x.fault());
    }

    private static void wiped() {
        CHECK.words("promise 3: THE TEXT is empty: how long it was");
        BellSeconds x = new BellSeconds();
        due("wipe() of nothing", 0, x.wipe());
        for (int long_ = 1; long_ <= 48; long_++) {
            Check.tell(x, "T".repeat(long_));
            due("wipe()", long_, x.wipe());
            due("count(0)", 0, x.count(0));
            due("fault()", 0, x.fault());
            if (long_ % 8 == 0) x = new BellSeconds();
        }
        due("wipe() once more", 0, x.wipe());
        due("an empty text is no tower", STATE, x.tower());
    }

    // ---- fault

    /** Of all letters behind a head just these may come; ends: THE TEXT is a TOWER then. */
    private static void mayCome(String head, String allowed, boolean ends) {
        for (int letter = 0; letter <= 255; letter++) {
            boolean may = allowed.indexOf(letter) >= 0;
            int want = !may ? head.length() : ends ? NONE : head.length() + 1;
            due("fault of " + head + " and letter " + letter, want, Check.faultOf(head + (char) letter));
        }
    }

    private static void firstLetter() {
        CHECK.words("A TOWER is a TEXT: T, then PARTS, none or more");
        mayCome("", "T", true);
        due("fault of nothing: its length", 0, Check.faultOf(""));
    }

    private static void bellLetters() {
        CHECK.words("Brd: a BELL that rings r SECONDS (1 to 3) by a stroke, and is damped d SECONDS (0 to 2)");
        mayCome("TB", "123", false);
        for (int r = 1; r <= 3; r++) mayCome("TB" + r, "012", true);
        mayCome("TQ001B", "123", false);
        mayCome("TB10B", "123", false);
        mayCome("TB10B10B3", "012", true);
    }

    private static void pealLetters() {
        CHECK.words("Pbngtuw: strokes (1 to 3)");
        mayCome("TB10P0", "123", false);
        CHECK.words("Pbngtuw: g SECONDS (0 to 3)");
        for (int n = 1; n <= 3; n++) mayCome("TB10P0" + n, "0123", false);
        CHECK.words("Pbngtuw: SECONDS t (0 to 9)");
        for (int g = 0; g <= 3; g++) mayCome("TB10P01" + g, FIGURES, false);
        CHECK.words("Pbngtuw: to u (t to 9)");
        for (int t = 0; t <= 9; t++) mayCome("TB10P010" + t, FIGURES.substring(t), false);
        CHECK.words("Pbngtuw: for w COINS (1 to 9)");
        for (int t = 0; t <= 9; t++) mayCome("TB10P010" + t + "9", "123456789", true);
        mayCome("TB10P01000", "123456789", true);
        CHECK.words("a PEAL that may begin at no SECOND is a PEAL");
        due("too long", NONE, Check.faultOf("TB30P013001"));
        due("too close", NONE, Check.faultOf("TB12P021091"));
    }

    private static void quietLetters() {
        CHECK.words("Qtuw: SECONDS t (0 to 9)");
        mayCome("TQ", FIGURES, false);
        CHECK.words("Qtuw: to u (t to 9)");
        for (int t = 0; t <= 9; t++) mayCome("TQ" + t, FIGURES.substring(t), false);
        CHECK.words("Qtuw: for w COINS (1 to 9)");
        for (int t = 0; t <= 9; t++) mayCome("TQ" + t + "9", "123456789", true);
        mayCome("TQ00", "123456789", true);
    }

    private static void kindsOfParts() {
        CHECK.words("PARTS: Brd, Pbngtuw, Qtuw");
        mayCome("TB10", "BPQ", false);
        mayCome("TB10P010001", "BPQ", false);
        mayCome("TB10Q001", "BPQ", false);
        mayCome("TQ001B10", "BPQ", false);
        CHECK.words("a PEAL whose BELL could not be told ahead can be no PEAL");
        mayCome("T", "BQ", false);
        mayCome("TQ001", "BQ", false);
        mayCome("T" + quiets(4), "BQ", false);
    }

    private static void bellsToldAhead() {
        CHECK.words("Pbngtuw: BELL b (told ahead)");
        for (int many = 1; many <= 3; many++) mayCome("T" + bells(many) + "P", "012".substring(0, many), false);
        mayCome("TB10Q001B10P", "01", false);
        mayCome("TB10P010001B10P", "01", false);
        due("a bell told behind it does not count", 5, Check.faultOf("TB10P110001B10"));
    }

    private static void mostBells() {
        CHECK.words("BELLS (3 at most)");
        mayCome("TB10B10", "BPQ", false);
        mayCome("TB10B10B10", "PQ", false);
        mayCome("TB10B10B10Q001", "PQ", false);
        mayCome("TB10Q001B10Q001B10Q001", "PQ", false);
        due("a third", NONE, Check.faultOf("TB10B10B10"));
        due("a fourth: the fault is its first letter", 10, Check.faultOf("TB10B10B10B10"));
        due("a fourth, behind a peal", 17, Check.faultOf("TB10B10B10P010001B10"));
    }

    private static void mostBidders() {
        CHECK.words("BIDDERS (5 at most)");
        mayCome("T" + quiets(5), "B", false);
        mayCome("TB10" + quiets(4), "BPQ", false);
        mayCome("TB10" + quiets(5), "B", false);
        mayCome("TB10" + "P010001".repeat(4), "BPQ", false);
        mayCome("TB10" + "P010001".repeat(5), "B", false);
        mayCome("TB10P010001Q001P010001Q001", "BPQ", false);
        mayCome("TB10P010001Q001P010001Q001P010001", "B", false);
        mayCome("TB10B10" + quiets(5), "B", false);
        mayCome(LONGEST, "", false);
        mayCome("T" + bells(3) + quiets(5), "", false);
        due("a fifth", NONE, Check.faultOf("T" + quiets(5)));
        due("a sixth: the fault is its first letter", 21, Check.faultOf("T" + quiets(6)));
        due("bells are numbered for themselves", NONE, Check.faultOf("T" + quiets(5) + bells(3)));
    }

    private static void everyBeginning() {
        CHECK.words("FAULT: its length, if it is only not at its end; NONE: none");
        String[] texts = {LONGEST, "TQ001B10P010091Q999B32", "T" + quiets(5) + bells(3), "TB21P033099P010551"};
        for (String text : texts) {
            int end = 1;
            for (int long_ = 1; long_ <= text.length(); long_++) {
                due("fault of " + text.substring(0, long_), long_ == end ? NONE : long_,
                        Check.faultOf(text.substring(0, long_)));
                if (long_ == end && long_ < text.length()) {
                    char kind = text.charAt(long_);
                    end += kind == 'B' ? 3 : kind == 'P' ? 7 : 4;
                }
            }
        }
    }

    private static void whateverCameBehind() {
        CHECK.words("FAULT: the place of the first letter by which THE TEXT can be no TOWER, whatever came behind it");
        String[] heads = {"t", "TT", "TP", "TB0", "TB13", "TB10P1", "TB10P00", "TB10P014", "TB10P010:", "TB10P01098",
            "TB10P010990", "TQ/", "TQ98", "TQ990", "TB10B10B10B", "TQ001Q001Q001Q001Q001Q", "TB10" + (char) 255};
        String[] tails = {"", "T", "B10", "Q001", "P010091", "010091", "0", "" + (char) 0, "TT", "B10B10B10B10"};
        for (String head : heads) {
            for (String tail : tails) {
                due("fault of " + head + tail, head.length() - 1, Check.faultOf(head + tail));
            }
        }
        CHECK.words("the first of two faults");
        due("TB4P", 2, Check.faultOf("TB4P"));
        due("BTB4", 0, Check.faultOf("BTB4"));
    }

    private static void lengthSetAside() {
        CHECK.words("FAULT: (its length set aside)");
        due("45 letters", NONE, Check.faultOf(LONGEST));
        for (String tail : new String[] {"B", "P", "Q", "T", "B1", "B10", "Q00"}) {
            due("fault of 45 letters and " + tail, 45, Check.faultOf(LONGEST + tail));
        }
        due("48 letters", 1, Check.faultOf("T".repeat(48)));
        due("48 letters, none of them T", 0, Check.faultOf("B".repeat(48)));
        due("44 letters that are only not at their end", 44, Check.faultOf(LONGEST.substring(0, 44)));
    }

    // ---- tower

    private static String towerOf(int bells, int bidders) {
        StringBuilder s = new StringBuilder("T" + bells(bells));
        for (int k = 0; k < bidders; k++) s.append(bells > 0 && k % 2 == 0 ? "P010091" : "Q001");
        return s.toString();
    }

    private static void towersOfEachSize() {
        for (int bells = 0; bells <= 3; bells++) {
            for (int bidders = 0; bidders <= 5; bidders++) {
                CHECK.words("promise 5: THE TEXT is THE TOWER: 10 times BELLS, and BIDDERS");
                BellSeconds x = new BellSeconds();
                due("tower()", 10 * bells + bidders, Check.retell(x, towerOf(bells, bidders)));
                due("count(1)", bells, x.count(1));
                due("count(2)", bidders, x.count(2));
                due("count(0): the text stays", towerOf(bells, bidders).length(), x.count(0));
                knownAndUnknown(x, bells, bidders);
            }
        }
    }

    private static void knownAndUnknown(BellSeconds x, int bells, int bidders) {
        CHECK.words("promise 6: UNKNOWN (there is no such BELL)");
        for (int bell = 0; bell < bells; bell++) due("bell(" + bell + ", 0)", 1, x.bell(bell, 0));
        for (int bell : Check.beyond(0, bells - 1)) {
            for (int what = -1; what <= 3; what++) due("bell(" + bell + ", " + what + ")", UNKNOWN, x.bell(bell, what));
        }
        CHECK.words("promise 7: UNKNOWN (there is no such BIDDER)");
        for (int bidder = 0; bidder < bidders; bidder++) due("bidder(" + bidder + ", 5)", 1, x.bidder(bidder, 5));
        for (int bidder : Check.beyond(0, bidders - 1)) {
            due("bidder(" + bidder + ", -1)", UNKNOWN, x.bidder(bidder, -1));
            due("bidder(" + bidder + ", 6)", UNKNOWN, x.bidder(bidder, 6));
            due("bidder(" + bidder + ", 8)", UNKNOWN, x.bidder(bidder, 8));
        }
    }

    private static void towersRefused() {
        CHECK.words("promise 5: STATE: a FAULT; what is refused changes nothing");
        BellSeconds x = Check.of("TB21P010095");
        x.let(0, 3);
        String[] faults = {"", "B", "TB", "TB1", "TP", "TB4", "TT", "TB10P010001Q", "TQ991T", "TB10B10B10B10"};
        for (String text : faults) {
            due("tower() of " + text, STATE, Check.retell(x, text));
            due("the tower stays", 11, 10 * x.count(1) + x.count(2));
            due("its bell", 2, x.bell(0, 0));
            due("its bidder is let still", 3, x.bidder(0, 6));
            due("its act is there", 1, x.count(6));
            due("the text stays", text.length(), x.count(0));
        }
        due("undo() still", 0, x.undo());
    }

    private static void towerAnew() {
        CHECK.words("Nobody is LET, when THE TOWER is made anew; promise 5: THE ROW of ACTS is empty, what was kept is gone;"
                + " what is HEARD, THE SEED stay");
        BellSeconds x = Check.of("TB10P010095Q994");
        x.let(1, 9);
        x.keep(1);
        for (int second = 0; second <= 8; second++) {
            due("let", 9, x.let(0, second));
            due("revoke", 4, x.revoke(0));
        }
        x.let(0, 1);
        x.keep(0);
        for (int n = 1; n <= 6; n++) x.hear(1, 1);
        x.seed(Long.MAX_VALUE);
        due("the same tower anew", 12, x.tower());
        due("nobody is let", 0, x.count(3));
        due("bidder(0, 6)", NONE, x.bidder(0, 6));
        due("bidder(1, 6)", NONE, x.bidder(1, 6));
        due("nothing rings", 0, x.count(5));
        due("no act", 0, x.count(6));
        due("undo()", STATE, x.undo());
        due("again(0)", STATE, x.again(0));
        due("again(1)", STATE, x.again(1));
        due("six are heard", 6, x.count(7));
        due("what is heard is so still: one day without the quiet, one with", 2, x.fit(0));
        due("the seed", Long.MAX_VALUE, x.seed(0));
        due("the text stays", 15, x.count(0));
        due("it can be kept again", 0, x.keep(0));
        due("and gone on from", 0, x.again(0));
        CHECK.words("THE TOWER stays as it is, whatever becomes of THE TEXT");
        due("wipe()", 15, x.wipe());
        due("count(2)", 2, x.count(2));
        due("let", 5, x.let(0, 9));
        CHECK.words("A TOWER: T, then PARTS, none");
        x.write('T');
        due("tower()", 0, x.tower());
        due("nobody is there", UNKNOWN, x.revoke(0));
        due("rings", 0, x.rings(9));
        due("worth", 0, x.count(4));
    }

    private static void numberedAsTold() {
        CHECK.words("BELLS and BIDDERS are numbered as they are told, each for itself");
        BellSeconds x = Check.of("TQ123B32P013094B21Q456P121185B10P233299");
        int[][] bells = {{3, 2}, {2, 1}, {1, 0}};
        for (int bell = 0; bell < 3; bell++) {
            for (int what = 0; what < 2; what++) due("bell(" + bell + ", " + what + ")", bells[bell][what], x.bell(bell, what));
        }
        int[][] bidders = {{NONE, 0, 0, 1, 2, 3}, {0, 1, 3, 0, 9, 4}, {NONE, 0, 0, 4, 5, 6}, {1, 2, 1, 1, 8, 5},
            {2, 3, 3, 2, 9, 9}};
        for (int bidder = 0; bidder < 5; bidder++) {
            for (int what = 0; what < 6; what++) {
                due("bidder(" + bidder + ", " + what + ")", bidders[bidder][what], x.bidder(bidder, what));
            }
        }
    }

    // ---- bell, bidder

    private static void everyBell() {
        CHECK.words("promise 6: Of a BELL SECONDS it rings (what = 0), is damped (1)");
        for (int r = 1; r <= 3; r++) {
            for (int d = 0; d <= 2; d++) {
                BellSeconds x = Check.of("TB" + r + d);
                due("bell(0, 0)", r, x.bell(0, 0));
                due("bell(0, 1)", d, x.bell(0, 1));
                due("bell(0, 2)", 0, x.bell(0, 2));
            }
        }
    }

    private static void everyBidder() {
        CHECK.words("promise 7: Of a BIDDER strokes, SECONDS between, from, to, COINS; of a QUIET NONE, 0, 0");
        for (int t = 0; t <= 9; t++) {
            for (int u = t; u <= 9; u++) {
                for (int w = 1; w <= 9; w++) {
                    int n = 1 + (t + w) % 3, g = (u + w) % 4, b = (t + u) % 3;
                    BellSeconds x = Check.of("TB10B10B10P" + b + n + g + t + u + w + "Q" + t + u + w);
                    int[] peal = {b, n, g, t, u, w, NONE};
                    int[] quiet = {NONE, 0, 0, t, u, w, NONE, 1 << t};
                    for (int what = 0; what < 7; what++) due("bidder(0, " + what + ")", peal[what], x.bidder(0, what));
                    for (int what = 0; what < 8; what++) due("bidder(1, " + what + ")", quiet[what], x.bidder(1, what));
                }
            }
        }
    }

    private static void whats() {
        CHECK.words("promises 6, 7: OUTSIDE (what)");
        BellSeconds x = Check.of("TB32P010091Q001");
        for (int what : Check.beyond(0, 2)) due("bell(0, " + what + ")", OUTSIDE, x.bell(0, what));
        for (int what : Check.beyond(0, 7)) {
            due("bidder(0, " + what + ")", OUTSIDE, x.bidder(0, what));
            due("bidder(1, " + what + ")", OUTSIDE, x.bidder(1, what));
        }
        CHECK.words("of several the first that a call names: UNKNOWN, then OUTSIDE");
        due("bell(1, 3)", UNKNOWN, x.bell(1, 3));
        due("bell(-1, -1)", UNKNOWN, x.bell(-1, -1));
        due("bidder(2, 8)", UNKNOWN, x.bidder(2, 8));
        due("bidder(-1, -1)", UNKNOWN, x.bidder(-1, -1));
    }
}
