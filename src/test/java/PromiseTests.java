/** For each promise of the document: ordinary inputs, its edges, wrong inputs; all answers worked out by hand. */
public final class PromiseTests {
    private static final int UNKNOWN = -1, OUTSIDE = -2, STATE = -3, FULL = -4, NONE = -9;
    private static int wrong = 0;
    private static int promise = 0;

    private static void due(String what, long want, long got) {
        if (got != want) {
            wrong++;
            System.out.println("promise " + promise + ": " + what + " answered " + got + ", due is " + want);
        }
    }

    /** A new object whose TOWER is the text. */
    private static BellSeconds of(String text) {
        BellSeconds x = new BellSeconds();
        retell(x, text);
        return x;
    }

    private static int retell(BellSeconds x, String text) {
        x.wipe();
        for (char letter : text.toCharArray()) x.write(letter);
        int answer = x.tower();
        if (answer < 0) {
            wrong++;
            System.out.println("promise " + promise + ": no tower: " + text);
        }
        return answer;
    }

    private static int faultOf(String text) {
        BellSeconds x = new BellSeconds();
        for (char letter : text.toCharArray()) x.write(letter);
        return x.fault();
    }

    /** Two bells; a peal of two strokes, a peal of one, a quiet, a peal on the other bell. */
    private static final String SMALL = "TB21B10P021193P010095Q344P110098";

    public static void main(String[] args) {
        theTower();
        acts();
        lettings();
        heard();
        sealedAndSeeds();
        slots();
        System.out.println(wrong == 0 ? "all answers are as due" : wrong + " answers are not as due");
        if (wrong != 0) System.exit(1);
    }

    // ---- the tower

    private static void theTower() {
        newObject();
        write();
        wipe();
        fault();
        tower();
        bell();
        bidder();
        rings();
        clashes();
    }

    private static void newObject() {
        promise = 1;
        BellSeconds x = new BellSeconds();
        int[] none = {0, 0, 0, 0, 0, 0, 0, 0};
        for (int what = 0; what < 8; what++) due("count(" + what + ")", none[what], x.count(what));
        due("fault()", 0, x.fault());
        due("bell(0, 0)", UNKNOWN, x.bell(0, 0));
        due("bidder(0, 0)", UNKNOWN, x.bidder(0, 0));
        due("again(0)", STATE, x.again(0));
        due("seed(0)", 0, x.seed(0));
        due("fit(0)", 1, x.fit(0));
        due("unwanted()", 1023, x.unwanted());
    }

    private static void write() {
        promise = 2;
        BellSeconds x = new BellSeconds();
        due("write(-1)", OUTSIDE, x.write(-1));
        due("write(256)", OUTSIDE, x.write(256));
        for (int n = 1; n <= 48; n++) due("write " + n, n, x.write(n % 2 == 0 ? 255 : 0));
        due("49th", FULL, x.write('T'));
        due("49th, outside", OUTSIDE, x.write(Integer.MIN_VALUE));
        due("count(0)", 48, x.count(0));
    }

    private static void wipe() {
        promise = 3;
        BellSeconds x = of(SMALL);
        due("wipe()", SMALL.length(), x.wipe());
        due("wipe() again", 0, x.wipe());
        due("the tower stays", 4, x.count(2));
        due("write", 1, x.write('T'));
    }

    private static void fault() {
        promise = 4;
        due("empty", 0, faultOf(""));
        due("t", 0, faultOf("t"));
        due("T", NONE, faultOf("T"));
        due("TT", 1, faultOf("TT"));
        due("TB", 2, faultOf("TB"));
        due("TB1", 3, faultOf("TB1"));
        due("TB0", 2, faultOf("TB0"));
        due("TB4", 2, faultOf("TB4"));
        due("TB30", NONE, faultOf("TB30"));
        due("TB33", 3, faultOf("TB33"));
        due("TB12", NONE, faultOf("TB12"));
        due("no bell could be told", 1, faultOf("TP"));
        due("no bell could be told, behind a quiet", 5, faultOf("TQ099P"));
        due("bell 1 is not told ahead", 5, faultOf("TB10P1"));
        due("bell 1 is told", 9, faultOf("TB10B10P1"));
        due("strokes 0", 6, faultOf("TB10P00"));
        due("strokes 4", 6, faultOf("TB10P04"));
        due("between 4", 7, faultOf("TB10P014"));
        due("from :", 8, faultOf("TB10P010:"));
        due("from /", 8, faultOf("TB10P010/"));
        due("to ahead of from", 9, faultOf("TB10P01054"));
        due("coins 0", 10, faultOf("TB10P010550"));
        due("a peal", NONE, faultOf("TB10P010551"));
        due("a peal that never begins is one", NONE, faultOf("TB32P030009"));
        due("quiet", 5, faultOf("TB10Q"));
        due("quiet 9 to 8", 3, faultOf("TQ98"));
        due("quiet for 0", 4, faultOf("TQ990"));
        due("a quiet", NONE, faultOf("TQ991"));
        due("a fourth bell", 10, faultOf("TB10B10B10B"));
        due("a sixth bidder", 21, faultOf("TQ001Q001Q001Q001Q001Q"));
        due("a sixth bidder, a peal", 24, faultOf("TB10Q001Q001Q001Q001Q001P"));
        due("a bell behind five bidders", NONE, faultOf("TQ001Q001Q001Q001Q001B10"));
        String most = "TB10B10B10P010091P010091P010091P010091P010091";
        due("the longest", NONE, faultOf(most));
        due("and more", 45, faultOf(most + "B10"));
        due("the first of two faults", 2, faultOf("TB9P"));
    }

    private static void tower() {
        promise = 5;
        BellSeconds x = new BellSeconds();
        due("no text", STATE, x.tower());
        due("SMALL", 24, retell(x, SMALL));
        due("count(0)", SMALL.length(), x.count(0));
        x.let(1, 0);
        x.keep(0);
        x.keep(1);
        x.hear(0, 3);
        x.seed(77);
        x.write('B');
        due("a fault", STATE, x.tower());
        due("refused: still let", 5, x.count(4));
        due("refused: still a row", 1, x.count(6));
        due("refused: still kept", 5, x.again(1));
        x.let(3, 0);
        due("anew", 24, retell(x, SMALL));
        due("nobody is let", 0, x.count(3));
        due("the row is empty", 0, x.count(6));
        due("undo()", STATE, x.undo());
        due("again(0)", STATE, x.again(0));
        due("again(1)", STATE, x.again(1));
        due("heard stays", 1, x.count(7));
        due("the seed stays", 77, x.seed(0));
        due("T", 0, retell(x, "T"));
        due("no bidder", UNKNOWN, x.bidder(0, 5));
        due("no bell", UNKNOWN, x.bell(0, 0));
        BellSeconds turned = of("TB10Q091P010091");
        retell(turned, "TB10P010091Q091");
        turned.let(0, 0);
        due("a peal where a quiet was", 1, turned.rings(0));
        due("a quiet where a peal was", 1, turned.clashes(1, 0));
        turned.revoke(0);
        turned.let(1, 0);
        due("that peal wants no silence", 2, turned.clashes(0, 9));
        retell(turned, "TB10Q001P010091");
        turned.let(0, 0);
        due("a quiet rings nothing", 0, turned.rings(0));
        due("nor takes anything", 0, turned.clashes(1, 1));
        retell(turned, "TB10B10P010091P110091");
        turned.let(0, 0);
        due("a peal wants no silence of another bell", 0, turned.clashes(1, 0));
    }

    private static void bell() {
        promise = 6;
        BellSeconds x = of("TB32B10P021195P110098");
        due("rings", 3, x.bell(0, 0));
        due("is damped", 2, x.bell(0, 1));
        due("rings", 1, x.bell(1, 0));
        due("is damped", 0, x.bell(1, 1));
        due("silent", 0, x.bell(0, 2));
        x.let(1, 9);
        due("in which", 512, x.bell(1, 2));
        due("the other is silent", 0, x.bell(0, 2));
        due("bell -1", UNKNOWN, x.bell(-1, 0));
        due("bell 2", UNKNOWN, x.bell(2, 9));
        due("what -1", OUTSIDE, x.bell(0, -1));
        due("what 3", OUTSIDE, x.bell(1, 3));
        BellSeconds z = of(SMALL);
        z.let(0, 1);
        due("not while it is damped", 2 + 4 + 16 + 32, z.bell(0, 2));
    }

    private static void bidder() {
        promise = 7;
        BellSeconds x = of(SMALL);
        int[] peal = {0, 2, 1, 1, 9, 3, NONE, 2 + 4 + 8 + 16 + 32};
        int[] quiet = {NONE, 0, 0, 3, 4, 4, NONE, 8};
        for (int what = 0; what < 8; what++) {
            due("bidder(0, " + what + ")", peal[what], x.bidder(0, what));
            due("bidder(2, " + what + ")", quiet[what], x.bidder(2, what));
        }
        due("one stroke of two seconds in 0 to 9", 511, x.bidder(1, 7));
        due("one of one second in 0 to 9", 1023, x.bidder(3, 7));
        x.let(0, 5);
        due("let from", 5, x.bidder(0, 6));
        due("bidder -1", UNKNOWN, x.bidder(-1, 0));
        due("bidder 4", UNKNOWN, x.bidder(4, 8));
        due("what -1", OUTSIDE, x.bidder(0, -1));
        due("what 8", OUTSIDE, x.bidder(3, 8));
        BellSeconds y = of("TB12P021095P012095P022099P030231P022231");
        due("less between than it is damped", 0, y.bidder(0, 7));
        due("one stroke asks for nothing between", 1023, y.bidder(1, 7));
        due("as much between as it is damped", 127, y.bidder(2, 7));
        due("too narrow and too close", 0, y.bidder(3, 7));
        due("too narrow", 0, y.bidder(4, 7));
    }

    private static void rings() {
        promise = 8;
        BellSeconds x = of(SMALL);
        x.let(0, 1);
        x.let(3, 2);
        int[] bells = {0, 1, 3, 0, 1, 1, 0, 0, 0, 0};
        for (int second = 0; second < 10; second++) due("rings(" + second + ")", bells[second], x.rings(second));
        due("rings(-1)", OUTSIDE, x.rings(-1));
        due("rings(10)", OUTSIDE, x.rings(10));
        BellSeconds three = of("TB10B10B10P210091P010091");
        three.let(0, 9);
        three.let(1, 9);
        due("the third bell and the first", 5, three.rings(9));
    }

    private static void clashes() {
        promise = 9;
        BellSeconds x = of(SMALL);
        x.let(0, 4);
        x.let(3, 3);
        due("the quiet with a peal of each bell", 1 + 8, x.clashes(2, 3));
        due("free ahead of it", 0, x.clashes(1, 1));
        due("damped into it", 1, x.clashes(1, 2));
        due("where it is damped", 1, x.clashes(1, 6));
        due("behind it", 1, x.clashes(1, 8));
        due("other bells never", 0, x.clashes(3, 4));
        due("not with itself", 0, x.clashes(0, 5));
        due("with one that is let itself", 0, x.clashes(0, 4));
        due("may not begin", STATE, x.clashes(2, 4));
        due("may not begin", STATE, x.clashes(1, 9));
        due("second -1", OUTSIDE, x.clashes(1, -1));
        due("second 10", OUTSIDE, x.clashes(1, 10));
        due("bidder 4", UNKNOWN, x.clashes(4, 10));
        due("bidder -1", UNKNOWN, x.clashes(-1, 0));
        BellSeconds y = of("TB12P010095P010095Q991Q891");
        y.let(0, 9);
        due("both beyond 9", 1, y.clashes(1, 8));
        due("free", 0, y.clashes(1, 6));
        due("a quiet", 1, y.clashes(2, 9));
        y.revoke(0);
        y.let(0, 7);
        due("damped is no ringing", 0, y.clashes(3, 8));
        y.let(3, 8);
        due("quiets never do", 0, y.clashes(2, 9));
    }

    // ---- acts

    private static void acts() {
        let();
        revoke();
        move();
        undo();
    }

    private static void let() {
        promise = 10;
        BellSeconds x = of(SMALL);
        due("bidder 4", UNKNOWN, x.let(4, 10));
        due("bidder -1", UNKNOWN, x.let(-1, 0));
        due("second 10", OUTSIDE, x.let(0, 10));
        due("second -1", OUTSIDE, x.let(0, -1));
        due("may not begin", STATE, x.let(0, 0));
        due("may not begin", STATE, x.let(2, 4));
        due("nothing changed", 0, x.count(6));
        due("let", 3, x.let(0, 5));
        due("is let", STATE, x.let(0, 5));
        due("is let", STATE, x.let(0, 1));
        due("clashes", STATE, x.let(1, 7));
        due("let", 8, x.let(1, 0));
        due("let", 12, x.let(2, 3));
        due("clashes with a quiet", STATE, x.let(3, 4));
        due("let", 20, x.let(3, 5));
        due("who", 15, x.count(3));
        due("acts", 4, x.count(6));
    }

    private static void revoke() {
        promise = 11;
        BellSeconds x = of(SMALL);
        due("bidder 4", UNKNOWN, x.revoke(4));
        due("bidder -1", UNKNOWN, x.revoke(-1));
        due("not let", STATE, x.revoke(0));
        x.let(0, 5);
        x.let(3, 0);
        due("revoke", 8, x.revoke(0));
        due("not let any more", STATE, x.revoke(0));
        due("none", NONE, x.bidder(0, 6));
        due("revoke", 0, x.revoke(3));
        due("acts", 4, x.count(6));
    }

    private static void move() {
        promise = 12;
        BellSeconds x = of(SMALL);
        due("bidder 4", UNKNOWN, x.move(4, 10));
        due("second 10", OUTSIDE, x.move(0, 10));
        due("second -1", OUTSIDE, x.move(0, -1));
        due("not let", STATE, x.move(0, 1));
        x.let(0, 1);
        x.let(1, 8);
        due("is there", STATE, x.move(0, 1));
        due("may not begin", STATE, x.move(0, 0));
        due("clashes", STATE, x.move(0, 4));
        due("beside where it was itself", 1, x.move(0, 2));
        due("moved", 2, x.bidder(0, 6));
        due("back", 2, x.move(0, 1));
        due("acts", 4, x.count(6));
        x.revoke(1);
        x.move(0, 5);
        x.let(2, 3);
        due("a quiet has nowhere to go", STATE, x.move(2, 4));
        due("clashes with a quiet", STATE, x.move(0, 4));
        due("where it was", 5, x.bidder(0, 6));
    }

    private static void undo() {
        promise = 13;
        BellSeconds x = of(SMALL);
        due("none", STATE, x.undo());
        x.let(0, 1);
        x.move(0, 2);
        x.revoke(0);
        due("revoked, undone", 2, x.undo());
        due("is let from where it was", 2, x.bidder(0, 6));
        due("moved, undone", 1, x.undo());
        due("is let from where it was", 1, x.bidder(0, 6));
        due("let, undone", 0, x.undo());
        due("is not let", NONE, x.bidder(0, 6));
        due("none", STATE, x.undo());
        x.let(3, 0);
        for (int second = 1; second <= 9; second++) x.move(3, second);
        for (int second = 8; second >= 2; second--) x.move(3, second);
        due("sixteen at most", 16, x.count(6));
        for (int left = 15; left >= 0; left--) {
            due("undo", left, x.undo());
            due("back to", left < 9 ? left : 18 - left, x.bidder(3, 6));
        }
        due("the first one is forgotten", STATE, x.undo());
        due("so it is let still", 0, x.bidder(3, 6));
        x.revoke(3);
        x.let(3, 4);
        x.let(3, 5);
        due("what is refused is no act", 1, x.undo());
        BellSeconds turns = of(SMALL);
        turns.let(0, 1);
        turns.let(3, 0);
        for (int turn = 0; turn < 4; turn++) {
            turns.move(0, 2);
            turns.move(3, 1);
            turns.move(3, 0);
            turns.move(0, 1);
        }
        due("eighteen, two are forgotten", 16, turns.count(6));
        turns.revoke(3);
        due("three are", 15, turns.undo());
        for (int left = 14; left >= 0; left--) due("undo", left, turns.undo());
        due("the first one goes back last", 2, turns.bidder(0, 6));
        due("as does the other", 0, turns.bidder(3, 6));
    }

    // ---- lettings

    private static void lettings() {
        best();
        bestOf();
        beside();
        price();
        many();
        room();
        hands();
        judge();
    }

    /** One bell of one second; two want second 0 (5, 3), one wants 0 to 1 (4), silence in 1 is worth 2. */
    private static final String SCARCE = "TB10P010005P010003P010014Q112";

    private static void best() {
        promise = 14;
        BellSeconds x = of(SCARCE);
        due("nobody", 0, x.best(0));
        due("one", 3, x.best(2));
        due("two for one second", 5, x.best(3));
        due("two seconds", 9, x.best(7));
        due("all: 5 and 4, or 5 and 2", 9, x.best(15));
        due("the first and the quiet", 7, x.best(9));
        due("the third and the quiet", 6, x.best(12));
        due("bit 4", OUTSIDE, x.best(16));
        due("-1", OUTSIDE, x.best(-1));
        due("MIN", OUTSIDE, x.best(Integer.MIN_VALUE));
        x.let(1, 0);
        due("whoever is let", 9, x.best(15));
        due("T", OUTSIDE, of("T").best(1));
        due("silence in 0", 9, of("TQ009").best(1));
        due("three bells at once", 6, of("TB10B10B10P010002P110002P210002").best(7));
    }

    private static void bestOf() {
        promise = 15;
        BellSeconds x = of(SCARCE);
        int[] scarce = {0, NONE, 1, NONE};
        for (int b = 0; b < 4; b++) due("bestOf(" + b + ")", scarce[b], x.bestOf(b));
        due("bestOf(4)", UNKNOWN, x.bestOf(4));
        due("bestOf(-1)", UNKNOWN, x.bestOf(-1));
        BellSeconds like = of("TB10P010004P010004P010591");
        due("of like ones the first day lets the first one not", NONE, like.bestOf(0));
        due("but the second", 0, like.bestOf(1));
        due("at its first second", 5, like.bestOf(2));
    }

    private static void beside() {
        promise = 16;
        BellSeconds x = of(SCARCE);
        due("all", 9, x.beside());
        x.let(1, 0);
        due("beside 1", 4, x.beside());
        x.let(3, 1);
        due("beside 1 and the quiet", 0, x.beside());
        x.revoke(1);
        due("beside the quiet", 5, x.beside());
        due("nothing is changed", 8, x.count(3));
        x.revoke(3);
        x.let(0, 0);
        due("beside 0", 4, x.beside());
        BellSeconds silent = of("TQ001B10P010009P010998");
        silent.let(0, 0);
        due("beside silence", 8, silent.beside());
        due("T", 0, of("T").beside());
    }

    private static void price() {
        promise = 17;
        BellSeconds x = of(SCARCE);
        due("without 0: 3 and 4; the others have 4", 3, x.price(0));
        due("is not let by it", NONE, x.price(1));
        due("without 2: 5 and 2; the others have 5", 2, x.price(2));
        due("is not let by it", NONE, x.price(3));
        due("price(4)", UNKNOWN, x.price(4));
        due("price(-1)", UNKNOWN, x.price(-1));
        BellSeconds alone = of("TB10P010009");
        due("nobody loses", 0, alone.price(0));
        BellSeconds like = of("TB10P010004P010004");
        due("of like ones one", NONE, like.price(0));
        due("pays all", 4, like.price(1));
    }

    private static void many() {
        promise = 18;
        BellSeconds x = of(SCARCE);
        due("one in 0, one in 1, or the quiet", 2, x.many());
        x.let(0, 0);
        due("whoever is let", 2, x.many());
        due("many of little worth", 3, of("TB10P030029P010001Q111Q221").many());
        due("T", 0, of("T").many());
        due("silence for five", 5, of("TQ001Q001Q001Q001Q001").many());
        due("one that never begins", 0, of("TB32P030009").many());
    }

    private static void room() {
        promise = 19;
        BellSeconds x = of(SCARCE);
        x.let(1, 0);
        x.let(3, 1);
        due("for 0: the other goes", 3, x.room(0, 0));
        due("from", 0, x.room(0, 1));
        due("for 2: silence is worth less", 2, x.room(2, 0));
        due("from", 1, x.room(2, 1));
        due("let", STATE, x.room(1, 0));
        due("let, what 2", OUTSIDE, x.room(1, 2));
        due("what -1", OUTSIDE, x.room(0, -1));
        due("bidder 4", UNKNOWN, x.room(4, 7));
        x.revoke(3);
        due("for 2: nobody goes", 0, x.room(2, 0));
        due("from", 1, x.room(2, 1));
        BellSeconds never = of("TB32P030009Q001");
        due("may begin at none", NONE, never.room(0, 0));
        due("may begin at none", NONE, never.room(0, 1));
        BellSeconds like = of("TB10P010003P010113P010011");
        like.let(0, 0);
        like.let(1, 1);
        due("of like ones", 3, like.room(2, 0));
        due("the first", 0, like.room(2, 1));
    }

    private static void hands() {
        promise = 20;
        BellSeconds x = of("TB10B10B10P010091P110091P210091P031091Q991");
        due("nobody", 0, x.hands());
        x.let(4, 9);
        due("a quiet needs none", 0, x.hands());
        x.let(0, 0);
        x.let(2, 2);
        due("one second to walk two bells", 2, x.hands());
        x.move(2, 3);
        due("two seconds", 1, x.hands());
        x.let(1, 3);
        due("two at once", 2, x.hands());
        x.revoke(2);
        x.move(1, 2);
        due("one bell on", 1, x.hands());
        x.move(1, 1);
        due("no time to walk", 2, x.hands());
        x.revoke(1);
        x.let(3, 2);
        due("one bell: a ringer may ring on", 1, x.hands());
        BellSeconds damped = of("TB12B10P010091P110091");
        damped.let(0, 0);
        damped.let(1, 2);
        due("it is damped without a hand", 1, damped.hands());
        BellSeconds most = of("TB10B10B10P030091P030091P030091P130091P230091");
        most.let(0, 0);
        most.let(1, 3);
        most.let(2, 6);
        most.let(3, 0);
        most.let(4, 0);
        due("fifteen strokes", 3, most.hands());
        BellSeconds choice = of("TB10B10B10P010001P210001P110331P210221P010111");
        choice.let(0, 0);
        choice.let(1, 0);
        choice.let(2, 3);
        choice.let(3, 2);
        choice.let(4, 1);
        due("each goes on, whoever comes first", 2, choice.hands());
        BellSeconds back = of("TB10P010111P010001");
        back.let(0, 1);
        back.let(1, 0);
        due("the later one told first", 1, back.hands());
    }

    private static void judge() {
        promise = 21;
        BellSeconds x = of(SCARCE);
        due("0 from 0, 2 from 1", NONE, x.judge(2, 21));
        due("told with leading noughts", NONE, x.judge(2, 2100));
        due("the second", 1, x.judge(2, 10));
        due("twice", 1, x.judge(2, 2120));
        due("beside the ones ahead", 2, x.judge(3, 203100L));
        due("no such bidder", 0, x.judge(1, 40));
        due("no such bidder", 1, x.judge(2, 99));
        due("may not begin", 0, x.judge(1, 1));
        due("nothing is changed", 0, x.count(3));
        x.let(0, 0);
        due("beside those that are", 0, x.judge(1, 20));
        due("n 0", OUTSIDE, x.judge(0, 0));
        due("n 6", OUTSIDE, x.judge(6, 0));
        due("row -1", OUTSIDE, x.judge(5, -1));
        due("MIN", OUTSIDE, x.judge(5, Long.MIN_VALUE));
        due("MAX", OUTSIDE, x.judge(5, Long.MAX_VALUE));
        due("three figures for one", OUTSIDE, x.judge(1, 100));
        due("two figures for one", 0, x.judge(1, 99));
        due("eleven figures for five", OUTSIDE, x.judge(5, 10000000000L));
        due("ten figures for five", 0, x.judge(5, 9999999999L));
        BellSeconds five = of("TQ001Q111Q221Q331Q441");
        due("five", NONE, five.judge(5, 11223344L));
        due("the last of five", 4, five.judge(5, 11223345L));
    }

    // ---- heard

    private static void heard() {
        hear();
        unhear();
        fit();
        likely();
        unwanted();
    }

    private static void hear() {
        promise = 22;
        BellSeconds x = of(SMALL);
        due("second -1", OUTSIDE, x.hear(-1, 0));
        due("second 10", OUTSIDE, x.hear(10, 0));
        due("bells -1", OUTSIDE, x.hear(0, -1));
        due("bells 4", OUTSIDE, x.hear(0, 4));
        for (int n = 1; n <= 6; n++) due("hear", n, x.hear(3, 3));
        due("a seventh", FULL, x.hear(0, 0));
        due("a seventh, outside", OUTSIDE, x.hear(0, 4));
        due("count(7)", 6, x.count(7));
    }

    private static void unhear() {
        promise = 23;
        BellSeconds x = of(SMALL);
        due("none", 0, x.unhear());
        x.hear(0, 3);
        x.hear(0, 2);
        due("no day is so", 0, x.fit(0));
        due("two", 2, x.unhear());
        due("none", 0, x.count(7));
        due("days are again", 1, x.fit(0) > 0 ? 1 : 0);
        due("hear", 1, x.hear(0, 0));
    }

    private static void fit() {
        promise = 24;
        BellSeconds x = of(SCARCE);
        // Nobody; 0; 1; 2 from 0; 2 from 1; 0 and 2; 1 and 2: seven; with the quiet none of 2 from 1: four more.
        due("all days", 11, x.fit(0));
        due("in all", 0, x.fit(1));
        due("in none", 0, x.fit(2));
        x.let(0, 0);
        due("whoever is let", 11, x.fit(0));
        x.hear(1, 1);
        due("2 from 1, alone or with 0 or 1", 3, x.fit(0));
        due("surely let", 4, x.fit(1));
        due("surely not", 8, x.fit(2));
        x.hear(0, 0);
        due("alone", 1, x.fit(0));
        due("surely let", 4, x.fit(1));
        due("surely not", 11, x.fit(2));
        x.hear(0, 1);
        due("told both ways", 0, x.fit(0));
        due("none", NONE, x.fit(1));
        due("none", NONE, x.fit(2));
        due("what -1", OUTSIDE, x.fit(-1));
        due("what 3", OUTSIDE, x.fit(3));
        BellSeconds y = of("TB10B10P010001P110001");
        due("two bells", 4, y.fit(0));
        y.hear(0, 2);
        due("just the second bell", 1, y.fit(0));
        retell(y, "TB10P010001");
        due("of bells that are gone nothing is looked at", 1, y.fit(0));
        due("but of the other", 1, y.fit(2));
        retell(y, "TB10B10B10P010001P110001P210001");
        due("just that bell of three", 1, y.fit(0));
        due("surely", 2, y.fit(1));
        BellSeconds quiets = of("TQ001Q001Q001Q001Q001");
        due("any of five quiets", 32, quiets.fit(0));
        due("none of them surely", 0, quiets.fit(1));
        BellSeconds told = of("TQ001B10P010001");
        told.hear(0, 1);
        due("no silence then", 1, told.fit(2));
    }

    private static void likely() {
        promise = 25;
        BellSeconds x = of(SCARCE);
        due("8 of 11 days", 8, x.likely(0, true));
        due("8 of 11 days", 11, x.likely(0, false));
        due("3 of 11", 3, x.likely(1, true));
        due("3 of 11", 11, x.likely(1, false));
        due("never", 0, x.likely(9, true));
        due("never", 1, x.likely(9, false));
        x.hear(1, 1);
        due("2 of 3", 2, x.likely(0, true));
        due("2 of 3", 3, x.likely(0, false));
        due("surely", 1, x.likely(1, true));
        due("surely", 1, x.likely(1, false));
        x.hear(1, 0);
        due("none fits", STATE, x.likely(0, true));
        due("none fits", STATE, x.likely(0, false));
        due("one day alone", 0, new BellSeconds().likely(0, true));
        due("one day alone", 1, new BellSeconds().likely(0, false));
        due("second 10", OUTSIDE, x.likely(10, true));
        due("second -1", OUTSIDE, x.likely(-1, false));
        BellSeconds y = of("TB10B10P010001P110001");
        due("3 of 4: either bell", 3, y.likely(0, true));
        due("3 of 4", 4, y.likely(0, false));
        BellSeconds z = of("TB10P010001Q551");
        due("2 of 4 in least terms", 1, z.likely(0, true));
        due("2 of 4 in least terms", 2, z.likely(0, false));
    }

    private static void unwanted() {
        promise = 26;
        due("T", 1023, of("T").unwanted());
        due("a quiet", 1023 - 8 - 16, of("TQ341").unwanted());
        due("a peal between whose strokes nothing rings", 1023 - 1 - 4, of("TB11P021021").unwanted());
        due("wherever it begins", 1023 - 31, of("TB11P021041").unwanted());
        due("one that never begins", 1023, of("TB12P021091").unwanted());
        due("the third bell", 1022, of("TB10B10B10P210001").unwanted());
        BellSeconds x = of(SCARCE);
        due("0 and 1 are wanted", 1020, x.unwanted());
        x.let(0, 0);
        due("whoever is let", 1020, x.unwanted());
    }

    // ---- sealed, seeds

    private static void sealedAndSeeds() {
        sealed();
        seed();
        day();
    }

    private static void sealed() {
        promise = 27;
        due("like bids from 3 to 7", 5, new BellSeconds().sealed(7, 4, 0));
        BellSeconds x = new BellSeconds();
        due("the first", 33, x.sealed(7, 4, 1));
        due("22, 33, and 23", 3, x.sealed(3, 3, 0));
        due("the first", 22, x.sealed(3, 3, 1));
        due("the other bids one more: 01 to 89", 9, x.sealed(0, 9, 0));
        due("the first", 1, x.sealed(0, 9, 1));
        due("00 and 11 and 01", 3, x.sealed(1, 1, 0));
        due("the first", 0, x.sealed(1, 1, 1));
        due("88, 89, 99", 3, x.sealed(9, 9, 0));
        due("a 10", OUTSIDE, x.sealed(10, 0, 0));
        due("a -1", OUTSIDE, x.sealed(-1, 0, 0));
        due("b 10", OUTSIDE, x.sealed(0, 10, 0));
        due("b -1", OUTSIDE, x.sealed(0, -1, 0));
        due("what 2", OUTSIDE, x.sealed(0, 0, 2));
        due("what -1", OUTSIDE, x.sealed(0, 0, -1));
    }

    private static void seed() {
        promise = 28;
        BellSeconds x = new BellSeconds();
        due("0 at first", 0, x.seed(Long.MIN_VALUE));
        due("what it was", Long.MIN_VALUE, x.seed(-1));
        due("what it was", -1, x.seed(5));
        retell(x, SMALL);
        due("it stays", 5, x.seed(0));
    }

    private static void day() {
        promise = 29;
        BellSeconds x = of("TB10P010098Q771Q444P010092");
        due("m 0", OUTSIDE, x.day(0));
        due("m -1", OUTSIDE, x.day(-1));
        due("m 21", OUTSIDE, x.day(21));
        due("the seed stays", 0, x.seed(0));
        // From 0 on what is left by 50 is 7, 24, 37, 36: 0 from 7, 2 from 4, 3 from 7 (clashes with 0), 3 from 6.
        due("0 from 7", 8, x.day(1));
        due("the seed went on once", 1442695040888963407L, x.seed(0));
        due("2 from 4 too", 12, x.day(2));
        x.seed(0);
        due("3 clashes", 12, x.day(3));
        x.seed(0);
        due("3 from 6 then", 14, x.day(4));
        due("nothing is let", 0, x.count(3));
        due("no act", 0, x.count(6));
        x.let(1, 7);
        x.seed(0);
        due("beside those that are 0 clashes", 1, x.day(1));
        due("then 2 from 4 does not", 5, x.day(1));
        BellSeconds none = new BellSeconds();
        due("no bidders", 0, none.day(20));
        long x20 = 0;
        for (int time = 0; time < 20; time++) x20 = x20 * 6364136223846793005L + 1442695040888963407L;
        due("twenty times", x20, none.seed(0));
    }

    // ---- slots

    private static void slots() {
        keep();
        again();
        count();
    }

    private static void keep() {
        promise = 30;
        BellSeconds x = of(SMALL);
        due("slot -1", UNKNOWN, x.keep(-1));
        due("slot 2", UNKNOWN, x.keep(2));
        due("nobody", 0, x.keep(1));
        x.let(0, 1);
        due("3 coins", 3, x.keep(0));
        due("the row stays", 1, x.count(6));
        x.let(3, 0);
        due("kept over", 11, x.keep(0));
        x.revoke(0);
        due("as kept last", 11, x.again(0));
        due("the other slot", 0, x.again(1));
    }

    private static void again() {
        promise = 31;
        BellSeconds x = of(SMALL);
        due("slot -1", UNKNOWN, x.again(-1));
        due("slot 2", UNKNOWN, x.again(2));
        due("none were kept", STATE, x.again(0));
        x.let(0, 2);
        x.keep(1);
        due("none were kept there", STATE, x.again(0));
        due("refused: the row stays", 1, x.count(6));
        x.move(0, 1);
        x.let(3, 0);
        due("again", 3, x.again(1));
        due("from where it was", 2, x.bidder(0, 6));
        due("not let", NONE, x.bidder(3, 6));
        due("the row is empty", 0, x.count(6));
        due("undo", STATE, x.undo());
        x.revoke(0);
        due("once more", 3, x.again(1));
        x.revoke(0);
        due("what is kept is its own", 3, x.again(1));
    }

    private static void count() {
        promise = 32;
        BellSeconds x = of(SMALL);
        x.let(0, 1);
        x.let(3, 0);
        x.hear(0, 2);
        int[] counts = {SMALL.length(), 2, 4, 9, 11, 1 + 2 + 4 + 16 + 32, 2, 1};
        for (int what = 0; what < 8; what++) due("count(" + what + ")", counts[what], x.count(what));
        x.write('B');
        due("letters of the text", SMALL.length() + 1, x.count(0));
        x.wipe();
        due("letters of the text", 0, x.count(0));
        due("bells of the tower", 2, x.count(1));
        due("count(-1)", OUTSIDE, x.count(-1));
        due("count(8)", OUTSIDE, x.count(8));
    }
}
