/** Bounds of part 1 of the document that beginning, CLASHES and ACTS have (promises 8 to 13). */
public final class LetBoundsTests {
    private static final int UNKNOWN = Check.UNKNOWN, OUTSIDE = Check.OUTSIDE, STATE = Check.STATE, NONE = Check.NONE;
    private static final Check CHECK = new Check();
    /** Wide enough for all that a PEAL takes, also beyond SECOND 9. */
    private static final int LINE = 40;

    public static void main(String[] args) {
        everyPeal();
        everyQuiet();
        pealsOfOneBell();
        pealAndQuiet();
        quietsNever();
        bellsNever();
        dampedBeyondNine();
        seconds();
        everyBellInEverySecond();
        unknownBidders();
        firstNamed();
        letTwice();
        revoked();
        moved();
        movedBesideOthers();
        rowOfActs();
        mixedActs();
        undoneAndOn();
        lastCall();
        CHECK.end();
    }

    private static void due(String call, long want, long got) {
        CHECK.due(call, want, got);
    }

    // ---- a second look at what a PEAL does, SECOND by SECOND

    private static boolean[] rung(int r, int n, int g, int second) {
        boolean[] line = new boolean[LINE];
        int at = second;
        for (int stroke = 0; stroke < n; stroke++) {
            for (int k = 0; k < r; k++) line[at++] = true;
            at += g;
        }
        return line;
    }

    /** Damped behind each SECOND of a stroke is all that is damped behind the stroke, and the stroke itself. */
    private static boolean[] taken(int r, int d, int n, int g, int second) {
        boolean[] rings = rung(r, n, g, second);
        boolean[] line = rings.clone();
        for (int at = 0; at + d < LINE; at++) {
            for (int k = 1; k <= d && rings[at]; k++) line[at + k] = true;
        }
        return line;
    }

    private static boolean mayBegin(int r, int d, int n, int g, int t, int u, int second) {
        if (n > 1 && g < d || second < t) return false;
        int lastOfAll = 0;
        boolean[] line = rung(r, n, g, second);
        for (int at = 0; at < LINE; at++) if (line[at]) lastOfAll = at;
        return lastOfAll <= u;
    }

    private static int bits(boolean[] line) {
        int bits = 0;
        for (int second = 0; second <= 9; second++) bits |= line[second] ? 1 << second : 0;
        return bits;
    }

    // ---- where a BIDDER may begin

    private static void everyPeal() {
        for (int r = 1; r <= 3; r++) {
            for (int d = 0; d <= 2; d++) {
                for (int n = 1; n <= 3; n++) {
                    for (int g = 0; g <= 3; g++) {
                        for (int t = 0; t <= 9; t++) {
                            for (int u = t; u <= 9; u++) onePeal(new int[] {r, d, n, g, t, u});
                        }
                    }
                }
            }
        }
    }

    private static void onePeal(int[] p) {
        CHECK.words("A PEAL may begin at a SECOND, if its first stroke does not begin ahead of t and its last one has rung"
                + " by the end of u; not at all, if it has more than one stroke and g is less than the BELL is damped");
        BellSeconds x = Check.of("TB" + p[0] + p[1] + "P0" + p[2] + p[3] + p[4] + p[5] + "7");
        int begins = 0;
        for (int second = 0; second <= 9; second++) {
            boolean may = mayBegin(p[0], p[1], p[2], p[3], p[4], p[5], second);
            begins |= may ? 1 << second : 0;
            due("clashes(0, " + second + ")", may ? 0 : STATE, x.clashes(0, second));
            due("let(0, " + second + ")", may ? 7 : STATE, x.let(0, second));
            due("who is let", may ? 1 : 0, x.count(3));
            if (may) {
                int rings = bits(rung(p[0], p[2], p[3], second));
                due("bell(0, 2): RINGS in all SECONDS of its strokes", rings, x.bell(0, 2));
                due("count(5)", rings, x.count(5));
                due("bidder(0, 6)", second, x.bidder(0, 6));
                due("revoke(0)", 0, x.revoke(0));
            }
        }
        due("bidder(0, 7)", begins, x.bidder(0, 7));
        due("room(0, 1): NONE: it may begin at none", begins == 0 ? NONE : Integer.numberOfTrailingZeros(begins), x.room(0, 1));
        due("room(0, 0)", begins == 0 ? NONE : 0, x.room(0, 0));
        due("best(1)", begins == 0 ? 0 : 7, x.best(1));
        due("fit(0)", 1 + Integer.bitCount(begins), x.fit(0));
    }

    private static void everyQuiet() {
        CHECK.words("A QUIET begins at t alone");
        for (int t = 0; t <= 9; t++) {
            for (int u = t; u <= 9; u++) {
                BellSeconds x = Check.of("TQ" + t + u + "4");
                due("bidder(0, 7)", 1 << t, x.bidder(0, 7));
                for (int second = 0; second <= 9; second++) {
                    due("clashes(0, " + second + ")", second == t ? 0 : STATE, x.clashes(0, second));
                    due("let(0, " + second + ")", second == t ? 4 : STATE, x.let(0, second));
                    if (second == t) due("revoke(0)", 0, x.revoke(0));
                }
                x.let(0, t);
                for (int second = 0; second <= 9; second++) due("a quiet has nowhere to go", STATE, x.move(0, second));
                due("nothing rings", 0, x.count(5));
            }
        }
    }

    // ---- CLASHES

    private static void pealsOfOneBell() {
        CHECK.words("Two that are LET CLASH: PEALS, if they TAKE one BELL in one SECOND");
        for (int r = 1; r <= 3; r++) {
            for (int d = 0; d <= 2; d++) {
                for (int one = 0; one < 12; one++) {
                    for (int other = 0; other < 12; other++) {
                        pair(r, d, 1 + one / 4, one % 4, 1 + other / 4, other % 4);
                    }
                }
            }
        }
    }

    private static void pair(int r, int d, int n, int g, int m, int h) {
        String text = "TB" + r + d + "P0" + n + g + "093P0" + m + h + "094";
        BellSeconds x = Check.of(text);
        for (int second = 0; second <= 9; second++) {
            if (!mayBegin(r, d, n, g, 0, 9, second)) continue;
            x = Check.of(text);
            x.let(0, second);
            boolean[] takes = taken(r, d, n, g, second);
            for (int then = 0; then <= 9; then++) {
                if (!mayBegin(r, d, m, h, 0, 9, then)) continue;
                boolean clash = shareOne(takes, taken(r, d, m, h, then));
                due(text + " clashes(1, " + then + ") beside " + second, clash ? 1 : 0, x.clashes(1, then));
                due(text + " let(1, " + then + ") beside " + second, clash ? STATE : 7, x.let(1, then));
                if (!clash) x.revoke(1);
            }
        }
    }

    private static boolean shareOne(boolean[] one, boolean[] other) {
        for (int at = 0; at < LINE; at++) if (one[at] && other[at]) return true;
        return false;
    }

    private static void pealAndQuiet() {
        CHECK.words("CLASH: a PEAL and a QUIET, if it RINGS in a SECOND of that");
        for (int kind = 0; kind < 108; kind++) {
            int r = 1 + kind % 3, d = kind / 3 % 3, n = 1 + kind / 9 % 3, g = kind / 27;
            for (int t = 0; t <= 9; t++) {
                for (int u = t; u <= 9; u++) besideQuiet(new int[] {r, d, n, g, t, u});
            }
        }
    }

    private static void besideQuiet(int[] p) {
        BellSeconds x = Check.of("TB" + p[0] + p[1] + "P0" + p[2] + p[3] + "093Q" + p[4] + p[5] + "4");
        for (int second = 0; second <= 9; second++) {
            if (!mayBegin(p[0], p[1], p[2], p[3], 0, 9, second)) continue;
            boolean clash = false;
            for (int at = p[4]; at <= p[5]; at++) clash |= rung(p[0], p[2], p[3], second)[at];
            x.let(0, second);
            due("the quiet beside the peal from " + second, clash ? 1 : 0, x.clashes(1, p[4]));
            x.revoke(0);
            x.let(1, p[4]);
            due("the peal from " + second + " beside the quiet", clash ? 2 : 0, x.clashes(0, second));
            due("let(0, " + second + ")", clash ? STATE : 7, x.let(0, second));
            x.revoke(0);
            x.revoke(1);
        }
    }

    private static void quietsNever() {
        CHECK.words("QUIETS never do");
        for (int one = 0; one < 100; one++) {
            for (int other = 0; other < 100; other++) {
                if (one / 10 > one % 10 || other / 10 > other % 10) continue;
                BellSeconds x = Check.of("TQ" + one / 10 + one % 10 + "1Q" + other / 10 + other % 10 + "2");
                x.let(0, one / 10);
                due("clashes", 0, x.clashes(1, other / 10));
                due("let", 3, x.let(1, other / 10));
            }
        }
    }

    private static void bellsNever() {
        CHECK.words("CLASH: PEALS, if they TAKE one BELL: of two BELLS never");
        String[] two = {"TB32B32P010091P110092", "TB32B10B32P010091P210092", "TB10B32B32P110091P210092"};
        for (String text : two) {
            for (int second = 0; second <= 7; second++) {
                for (int then = 0; then <= 7; then++) {
                    BellSeconds x = Check.of(text);
                    x.let(0, second);
                    due("clashes", 0, x.clashes(1, then));
                    due("let", 3, x.let(1, then));
                }
            }
        }
    }

    private static void dampedBeyondNine() {
        CHECK.words("TAKES its BELL in these and in those in which it is damped behind each (also beyond 9)");
        BellSeconds x = Check.of("TB12P010091P010092Q993Q004");
        due("rung by the end of 9, damped in 10 and 11", 1, x.let(0, 9));
        due("beyond 9 is not the first seconds again", 0, x.clashes(1, 0));
        due("nor of the quiet in 0", 0, x.clashes(3, 0));
        due("damped into 9", 1, x.clashes(1, 7));
        due("damped until 8", 0, x.clashes(1, 6));
        due("rings in 9", 1, x.clashes(2, 9));
        due("it rings in 9 alone", 512, x.bell(0, 2));
        x.move(0, 8);
        due("damped in 9 and 10: no ringing", 0, x.clashes(2, 9));
        due("but taken", 1, x.clashes(1, 9));
    }

    // ---- bounds of what is told

    private static void seconds() {
        BellSeconds x = Check.of("TB10P010095P010093");
        CHECK.words("SECONDS are 0 to 9; promise 8: OUTSIDE");
        due("rings(0)", 0, x.rings(0));
        due("rings(9)", 0, x.rings(9));
        for (int second : Check.beyond(0, 9)) due("rings(" + second + ")", OUTSIDE, x.rings(second));
        CHECK.words("promise 9: OUTSIDE: second");
        due("clashes(0, 0)", 0, x.clashes(0, 0));
        due("clashes(0, 9)", 0, x.clashes(0, 9));
        for (int second : Check.beyond(0, 9)) due("clashes(0, " + second + ")", OUTSIDE, x.clashes(0, second));
        CHECK.words("promise 10: OUTSIDE: second");
        for (int second : Check.beyond(0, 9)) due("let(0, " + second + ")", OUTSIDE, x.let(0, second));
        due("nobody is let by that", 0, x.count(3));
        due("let(0, 0)", 5, x.let(0, 0));
        due("let(1, 9)", 8, x.let(1, 9));
        due("rings(0)", 1, x.rings(0));
        due("rings(9)", 1, x.rings(9));
        due("bell(0, 2)", 513, x.bell(0, 2));
        CHECK.words("promise 12: OUTSIDE: second");
        for (int second : Check.beyond(0, 9)) due("move(0, " + second + ")", OUTSIDE, x.move(0, second));
        due("it is where it was", 0, x.bidder(0, 6));
        due("no more acts", 2, x.count(6));
        due("revoke(1)", 5, x.revoke(1));
        due("move(0, 9)", 0, x.move(0, 9));
        due("move(0, 0)", 9, x.move(0, 0));
    }

    private static void everyBellInEverySecond() {
        CHECK.words("promise 8: BELLS that RING in a SECOND, as bits; promise 6: SECONDS in which it RINGS (2: bits)");
        for (int second = 0; second <= 9; second++) {
            for (int those = 0; those < 8; those++) {
                BellSeconds x = Check.of("TB10B10B10P010091P110091P210091");
                for (int bell = 0; bell < 3; bell++) if ((those >> bell & 1) == 1) x.let(bell, second);
                for (int at = 0; at <= 9; at++) due("rings(" + at + ")", at == second ? those : 0, x.rings(at));
                for (int bell = 0; bell < 3; bell++) due("bell(" + bell + ", 2)", (those >> bell & 1) << second, x.bell(bell, 2));
                CHECK.words("promise 32: 5 SECONDS in which something RINGS (bits)");
                due("count(5)", those == 0 ? 0 : 1 << second, x.count(5));
            }
        }
    }

    private static void unknownBidders() {
        CHECK.words("promises 9 to 12: UNKNOWN (there is no such BIDDER)");
        for (int many = 0; many <= 5; many++) {
            BellSeconds x = Check.of("T" + "Q001".repeat(many));
            for (int bidder : Check.beyond(0, many - 1)) {
                due("clashes(" + bidder + ", 0)", UNKNOWN, x.clashes(bidder, 0));
                due("let(" + bidder + ", 0)", UNKNOWN, x.let(bidder, 0));
                due("revoke(" + bidder + ")", UNKNOWN, x.revoke(bidder));
                due("move(" + bidder + ", 0)", UNKNOWN, x.move(bidder, 0));
            }
            due("nobody is let by that", 0, x.count(3));
            due("no act", 0, x.count(6));
            for (int bidder = 0; bidder < many; bidder++) due("let", bidder + 1, x.let(bidder, 0));
            due("all are let", (1 << many) - 1, x.count(3));
            for (int bidder : Check.beyond(0, many - 1)) due("revoke(" + bidder + ")", UNKNOWN, x.revoke(bidder));
            due("all are let still", (1 << many) - 1, x.count(3));
        }
        CHECK.words("BIDDERS of the TOWER that was are there no more");
        BellSeconds y = Check.of("TQ001Q001");
        Check.retell(y, "TQ001");
        due("let(1, 0)", UNKNOWN, y.let(1, 0));
        due("clashes(1, 0)", UNKNOWN, y.clashes(1, 0));
        due("revoke(1)", UNKNOWN, y.revoke(1));
        due("move(1, 0)", UNKNOWN, y.move(1, 0));
    }

    private static void firstNamed() {
        CHECK.words("of several the first that a call names: UNKNOWN, OUTSIDE, STATE");
        BellSeconds x = Check.of("TB10P010005P010112");
        for (int bidder : new int[] {-1, 2}) {
            for (int second : new int[] {-1, 10}) {
                due("clashes", UNKNOWN, x.clashes(bidder, second));
                due("let", UNKNOWN, x.let(bidder, second));
                due("move", UNKNOWN, x.move(bidder, second));
            }
        }
        due("not let, second 10", OUTSIDE, x.move(0, 10));
        due("not let, second -1", OUTSIDE, x.move(0, -1));
        x.let(0, 0);
        due("is let, second 10", OUTSIDE, x.let(0, 10));
        due("is let, second -1", OUTSIDE, x.let(0, -1));
        due("may not begin then", STATE, x.clashes(0, 1));
        due("may not begin then", STATE, x.clashes(0, 9));
        CHECK.words("promise 9: STATE: it may not begin then (whoever is LET)");
        due("one that is let", STATE, x.clashes(0, 1));
        due("one that is let, at its second", 0, x.clashes(0, 0));
    }

    // ---- ACTS

    private static void letTwice() {
        CHECK.words("promise 10: STATE: it is LET");
        BellSeconds x = Check.of("TB10P010095Q994");
        due("let(0, 4)", 5, x.let(0, 4));
        for (int second = 0; second <= 9; second++) due("let(0, " + second + ")", STATE, x.let(0, second));
        due("where it was", 4, x.bidder(0, 6));
        due("one act", 1, x.count(6));
        due("let(1, 9)", 9, x.let(1, 9));
        due("let(1, 9) once more", STATE, x.let(1, 9));
        due("two acts", 2, x.count(6));
        CHECK.words("LET: a BIDDER that is not");
        due("revoke(0)", 4, x.revoke(0));
        due("let(0, 5)", 9, x.let(0, 5));
    }

    private static void revoked() {
        CHECK.words("promise 11: STATE: it is not LET");
        BellSeconds x = Check.of("TB10P010095Q994");
        due("revoke(0)", STATE, x.revoke(0));
        due("revoke(1)", STATE, x.revoke(1));
        x.let(0, 0);
        due("revoke(1)", STATE, x.revoke(1));
        due("the other is let still", 1, x.count(3));
        due("revoke(0)", 0, x.revoke(0));
        due("revoke(0) once more", STATE, x.revoke(0));
        due("two acts", 2, x.count(6));
        x.undo();
        due("let again by undo", 0, x.revoke(0));
        x.undo();
        x.undo();
        due("not let by undo", STATE, x.revoke(0));
    }

    private static void moved() {
        CHECK.words("promise 12: STATE: it is not LET, is LET from there, may not begin then");
        BellSeconds x = Check.of("TB20P010285");
        for (int second = 0; second <= 9; second++) due("not let", STATE, x.move(0, second));
        due("no act", 0, x.count(6));
        x.let(0, 2);
        int at = 2;
        for (int second = 0; second <= 9; second++) {
            boolean may = second >= 2 && second <= 7;
            due("move to where it is", STATE, x.move(0, at));
            due("move(0, " + second + ")", may && second != at ? at : STATE, x.move(0, second));
            at = may ? second : at;
            due("where it is", at, x.bidder(0, 6));
        }
        due("acts: let, and five times moved", 6, x.count(6));
        due("worth stays", 5, x.count(4));
    }

    private static void movedBesideOthers() {
        CHECK.words("MOVED: one LET is LET from another SECOND, likewise (CLASHES with nobody that is LET)");
        BellSeconds x = Check.of("TB21P010095P010093Q001");
        x.let(0, 4);
        x.let(1, 0);
        for (int second = 3; second <= 8; second++) due("clashes(0, " + second + "): but itself", 0, x.clashes(0, second));
        due("clashes(0, 2): the other is damped in 2", 2, x.clashes(0, 2));
        due("its own seconds are no clash", 4, x.move(0, 5));
        due("just behind the other, that is damped in 2", 5, x.move(0, 3));
        due("while the other is damped", STATE, x.move(0, 2));
        due("while the other rings", STATE, x.move(0, 1));
        due("where it was", 3, x.bidder(0, 6));
        due("the other: damped into it", STATE, x.move(1, 1));
        due("to the end", 3, x.move(0, 8));
        due("the other: damped until 7", 0, x.move(1, 5));
        due("the other: damped in 8", STATE, x.move(1, 6));
        due("the quiet", 9, x.let(2, 0));
        due("into the quiet", STATE, x.move(1, 0));
        due("just behind the quiet", 5, x.move(1, 1));
    }

    private static void rowOfActs() {
        for (int acts = 0; acts <= 40; acts++) {
            CHECK.words("ACTS are a row (16 at most; of more the first one is forgotten); the last one can be undone");
            BellSeconds x = Check.of("TB10P010095");
            for (int act = 1; act <= acts; act++) {
                if (act == 1) due("let", 5, x.let(0, 0));
                else due("move", placeAfter(act - 1), x.move(0, placeAfter(act)));
                due("count(6)", Math.min(act, 16), x.count(6));
            }
            int row = Math.min(acts, 16);
            for (int left = row - 1; left >= 0; left--) {
                due("undo()", left, x.undo());
                due("count(6)", left, x.count(6));
                due("where it was", placeAfter(acts - row + left), x.bidder(0, 6));
            }
            CHECK.words("promise 13: STATE: there is none");
            due("undo()", STATE, x.undo());
            due("undo() once more", STATE, x.undo());
            due("count(6)", 0, x.count(6));
            due("where it was", placeAfter(acts - row), x.bidder(0, 6));
        }
    }

    /** From which SECOND the BIDDER is LET after so many acts of rowOfActs. */
    private static int placeAfter(int acts) {
        return acts == 0 ? NONE : (acts - 1) * 3 % 10;
    }

    private static void mixedActs() {
        CHECK.words("ACTS (LET, REVOKED, MOVED); the last one can be undone");
        BellSeconds x = Check.of("TB10B10P010091P010092P110094Q998");
        int[][] acts = {{0, 0, 3}, {0, 1, 5}, {2, 0, 4}, {0, 2, 3}, {1, 1, 0}, {0, 3, 9}, {2, 2, 8}, {1, 3, 0}, {2, 2, 9},
            {0, 1, 0}, {1, 0, 0}, {2, 1, 1}, {0, 0, 9}, {2, 0, 0}, {1, 2, 0}, {0, 2, 0}, {1, 1, 0}, {0, 3, 9 + 90}, {0, 1, 9},
            {2, 2, 5}};
        int[][] days = new int[acts.length + 1][];
        int made = 0;
        days[0] = day(x);
        for (int[] act : acts) {
            int answer = act[0] == 0 ? x.let(act[1], act[2]) : act[0] == 1 ? x.revoke(act[1]) : x.move(act[1], act[2]);
            if (act[2] == 99) due("a refused act is none", OUTSIDE, answer);
            else if (answer < 0) due("an act", 0, answer);
            else days[++made] = day(x);
        }
        due("nineteen acts, three of them forgotten", 19, made);
        for (int left = 15; left >= 0; left--) {
            due("undo()", left, x.undo());
            int[] was = day(x);
            for (int bidder = 0; bidder < 4; bidder++) due("bidder " + bidder, days[left + 3][bidder], was[bidder]);
        }
        due("undo()", STATE, x.undo());
    }

    private static int[] day(BellSeconds x) {
        int[] day = new int[4];
        for (int bidder = 0; bidder < 4; bidder++) day[bidder] = x.bidder(bidder, 6);
        return day;
    }

    private static void undoneAndOn() {
        CHECK.words("what is undone is no ACT, and its place in the row is free");
        BellSeconds x = Check.of("TB10P010095");
        x.let(0, 0);
        for (int second = 1; second <= 9; second++) x.move(0, second);
        for (int second = 8; second >= 3; second--) x.move(0, second);
        due("a full row", 16, x.count(6));
        due("undo()", 15, x.undo());
        due("undo()", 14, x.undo());
        due("back in", 5, x.bidder(0, 6));
        due("move", 5, x.move(0, 1));
        due("move", 1, x.move(0, 2));
        due("full, nothing forgotten", 16, x.count(6));
        for (int left = 15; left >= 0; left--) due("undo()", left, x.undo());
        due("not let, as at first", NONE, x.bidder(0, 6));
        due("undo()", STATE, x.undo());
        CHECK.words("what is refused is no ACT");
        x.let(0, 4);
        x.let(0, 5);
        x.move(0, 4);
        x.move(0, 10);
        x.revoke(1);
        due("one", 1, x.count(6));
        due("undo()", 0, x.undo());
        due("not let", 0, x.count(3));
    }

    private static void lastCall() {
        CHECK.words("An object is used for at most 512 calls after it has been made");
        BellSeconds x = new BellSeconds();
        int calls = 0;
        String text = "TB10P010095Q994";
        for (int i = 0; i < text.length(); i++) due("write", ++calls, x.write(text.charAt(i)));
        due("tower()", 12, x.tower());
        calls++;
        while (calls < 508) {
            int second = calls % 10;
            due("let", 5, x.let(0, second));
            due("revoke", 0, x.revoke(0));
            calls += 2;
        }
        due("509th: count(6)", 16, x.count(6));
        due("510th: undo()", 15, x.undo());
        due("511th: count(4)", 5, x.count(4));
        due("512th: fit(0)", 21, x.fit(0));
    }
}
