import java.util.ArrayList;
import java.util.Arrays;
import java.util.EnumMap;
import java.util.EnumSet;
import java.util.List;
import java.util.Map;
import java.util.Set;
import java.util.TreeSet;

/**
 * What is refused changes nothing, and what is not refused changes nothing but what its promise says. One object makes
 * the call, its twin does not; then both are asked for all that they hold, down to the row of acts and what was kept.
 */
public final class RefusalTests {
    private enum Part { TEXT, TOWER, DAY, ACTS, KEPT, HEARD, SEED }

    private interface Step {
        long on(BellSeconds x);
    }

    private record Call(String name, String told, Step step) { }

    private static final Check CHECK = new Check();
    private static final int[] BIDDERS = {-1, 0, 1, 2, 3, 4, 5, Integer.MAX_VALUE, Integer.MIN_VALUE};
    private static final int[] SECONDS = {-1, 0, 1, 2, 3, 4, 5, 6, 7, 8, 9, 10};
    /** Every refusal that a promise names, and NONE where it can be. */
    private static final String[] NAMED = {
        "write OUTSIDE", "write FULL", "fault NONE", "tower STATE", "bell UNKNOWN", "bell OUTSIDE", "bidder UNKNOWN",
        "bidder OUTSIDE", "bidder NONE", "rings OUTSIDE", "clashes UNKNOWN", "clashes OUTSIDE", "clashes STATE",
        "let UNKNOWN", "let OUTSIDE", "let STATE", "revoke UNKNOWN", "revoke STATE", "move UNKNOWN", "move OUTSIDE",
        "move STATE", "undo STATE", "best OUTSIDE", "bestOf UNKNOWN", "bestOf NONE", "price UNKNOWN", "price NONE",
        "room UNKNOWN", "room OUTSIDE", "room STATE", "room NONE", "judge OUTSIDE", "judge NONE", "hear OUTSIDE",
        "hear FULL", "fit OUTSIDE", "fit NONE", "likely OUTSIDE", "likely STATE", "sealed OUTSIDE", "day OUTSIDE",
        "keep UNKNOWN", "again UNKNOWN", "again STATE", "count OUTSIDE"};

    private static final Set<String> seen = new TreeSet<>();

    public static void main(String[] args) {
        List<Call> calls = everyCall();
        for (Call setting : settings()) {
            Look twin = lookAt(setting, null);
            for (Call call : calls) beside(setting, call, twin);
        }
        CHECK.words("REFUSALS: each that a promise names, and no other");
        Set<String> named = new TreeSet<>(Arrays.asList(NAMED));
        for (String one : named) CHECK.due(one + " was answered", 1, seen.contains(one) ? 1 : 0);
        for (String one : seen) CHECK.due(one + " is named", 1, named.contains(one) ? 1 : 0);
        CHECK.end();
    }

    private static void beside(Call setting, Call call, Look twin) {
        Look look = lookAt(setting, call);
        CHECK.words("in " + setting.name());
        CHECK.due(call.told() + ": calls at most", 1, look.calls <= 512 ? 1 : 0);
        String refusal = call.name().equals("seed") ? "" : nameOf(look.answer);
        if (!refusal.isEmpty()) seen.add(call.name() + " " + refusal);
        boolean refused = !refusal.isEmpty() && !refusal.equals("NONE");
        Set<Part> may = refused ? EnumSet.noneOf(Part.class) : mayChange(call.name());
        CHECK.words("in " + setting.name() + ": what is refused changes nothing, what is not, but what its promise says");
        for (Part part : Part.values()) {
            if (may.contains(part)) continue;
            boolean same = look.seen.get(part).equals(twin.seen.get(part));
            CHECK.due(call.told() + " = " + look.answer + ": " + part + " is as it was", 1, same ? 1 : 0);
        }
    }

    private static String nameOf(long answer) {
        if (answer == Check.UNKNOWN) return "UNKNOWN";
        if (answer == Check.OUTSIDE) return "OUTSIDE";
        if (answer == Check.STATE) return "STATE";
        if (answer == Check.FULL) return "FULL";
        if (answer == Check.NONE) return "NONE";
        return answer < 0 ? "a number that is no refusal" : "";
    }

    private static Set<Part> mayChange(String name) {
        switch (name) {
            case "write": case "wipe": return EnumSet.of(Part.TEXT);
            case "tower": return EnumSet.of(Part.TOWER, Part.DAY, Part.ACTS, Part.KEPT, Part.HEARD);
            case "let": case "revoke": case "move": case "undo": case "again": return EnumSet.of(Part.DAY, Part.ACTS);
            case "hear": case "unhear": return EnumSet.of(Part.HEARD);
            case "seed": case "day": return EnumSet.of(Part.SEED);
            case "keep": return EnumSet.of(Part.KEPT);
            default: return EnumSet.noneOf(Part.class);
        }
    }

    // ---- the calls

    private static List<Call> everyCall() {
        List<Call> calls = new ArrayList<>();
        towerCalls(calls);
        bidderCalls(calls);
        lettingCalls(calls);
        heardCalls(calls);
        slotCalls(calls);
        return calls;
    }

    private static void add(List<Call> calls, String name, String told, Step step) {
        calls.add(new Call(name, name + "(" + told + ")", step));
    }

    private static void towerCalls(List<Call> calls) {
        for (int letter : new int[] {-1, 0, 'T', 'B', '0', 255, 256, Integer.MIN_VALUE, Integer.MAX_VALUE}) {
            add(calls, "write", "" + letter, x -> x.write(letter));
        }
        add(calls, "wipe", "", BellSeconds::wipe);
        add(calls, "fault", "", BellSeconds::fault);
        add(calls, "tower", "", BellSeconds::tower);
        for (int bell = -1; bell <= 3; bell++) {
            for (int what = -1; what <= 3; what++) {
                int b = bell, w = what;
                add(calls, "bell", b + ", " + w, x -> x.bell(b, w));
            }
        }
        for (int second : SECONDS) add(calls, "rings", "" + second, x -> x.rings(second));
        for (int what = -1; what <= 8; what++) {
            int w = what;
            add(calls, "count", "" + w, x -> x.count(w));
        }
    }

    private static void bidderCalls(List<Call> calls) {
        for (int b : BIDDERS) {
            for (int what = -1; what <= 8; what++) {
                int w = what;
                add(calls, "bidder", b + ", " + w, x -> x.bidder(b, w));
            }
            for (int s : SECONDS) {
                add(calls, "clashes", b + ", " + s, x -> x.clashes(b, s));
                add(calls, "let", b + ", " + s, x -> x.let(b, s));
                add(calls, "move", b + ", " + s, x -> x.move(b, s));
            }
            add(calls, "revoke", "" + b, x -> x.revoke(b));
        }
        add(calls, "undo", "", BellSeconds::undo);
    }

    private static void lettingCalls(List<Call> calls) {
        for (int those : new int[] {-1, 0, 1, 3, 7, 15, 16, 31, 32, 64, Integer.MIN_VALUE}) {
            add(calls, "best", "" + those, x -> x.best(those));
        }
        for (int b : BIDDERS) {
            add(calls, "bestOf", "" + b, x -> x.bestOf(b));
            add(calls, "price", "" + b, x -> x.price(b));
            for (int w : new int[] {-1, 0, 1, 2}) add(calls, "room", b + ", " + w, x -> x.room(b, w));
        }
        add(calls, "beside", "", BellSeconds::beside);
        add(calls, "many", "", BellSeconds::many);
        add(calls, "hands", "", BellSeconds::hands);
        long[] rows = {-1, 0, 2, 34, 99, 100, 234, 9999, 10000, 9999999999L, 10000000000L, Long.MIN_VALUE, Long.MAX_VALUE};
        for (int n = 0; n <= 6; n++) {
            for (long row : rows) {
                int things = n;
                add(calls, "judge", n + ", " + row, x -> x.judge(things, row));
            }
        }
    }

    private static void heardCalls(List<Call> calls) {
        for (int s : SECONDS) {
            for (int bells : new int[] {-1, 0, 1, 2, 3, 7, 8}) add(calls, "hear", s + ", " + bells, x -> x.hear(s, bells));
            add(calls, "likely", s + ", true", x -> x.likely(s, true));
            add(calls, "likely", s + ", false", x -> x.likely(s, false));
        }
        add(calls, "unhear", "", BellSeconds::unhear);
        add(calls, "unwanted", "", BellSeconds::unwanted);
        for (int w : new int[] {-1, 0, 1, 2, 3}) add(calls, "fit", "" + w, x -> x.fit(w));
    }

    private static void slotCalls(List<Call> calls) {
        for (int a : new int[] {-1, 0, 9, 10}) {
            for (int b : new int[] {-1, 0, 9, 10}) {
                for (int w : new int[] {-1, 0, 1, 2}) {
                    add(calls, "sealed", a + ", " + b + ", " + w, x -> x.sealed(a, b, w));
                }
            }
        }
        for (long v : new long[] {0, 1, -1, -9, Long.MIN_VALUE, Long.MAX_VALUE}) add(calls, "seed", "" + v, x -> x.seed(v));
        for (int m : new int[] {Integer.MIN_VALUE, -1, 0, 1, 2, 19, 20, 21, Integer.MAX_VALUE}) {
            add(calls, "day", "" + m, x -> x.day(m));
        }
        for (int slot : new int[] {Integer.MIN_VALUE, -1, 0, 1, 2, Integer.MAX_VALUE}) {
            add(calls, "keep", "" + slot, x -> x.keep(slot));
            add(calls, "again", "" + slot, x -> x.again(slot));
        }
    }

    // ---- the settings

    private static List<Call> settings() {
        List<Call> settings = new ArrayList<>();
        settings.add(new Call("a new object", "", x -> 0));
        settings.add(new Call("three of four let, one slot kept", "", RefusalTests::threeLet));
        settings.add(new Call("a text with a fault, both slots kept", "", RefusalTests::faultyText));
        settings.add(new Call("a full text, a full row, six heard", "", RefusalTests::allFull));
        settings.add(new Call("no act but somebody let, none fits", "", RefusalTests::goneOn));
        settings.add(new Call("all let", "", RefusalTests::allLet));
        return settings;
    }

    /** A setting is what it says only if none of its calls is refused. */
    private static void sure(int answer) {
        CHECK.words("a setting");
        CHECK.due("a call of it is not refused", 1, answer >= 0 ? 1 : 0);
    }

    private static int told(BellSeconds x, String text) {
        x.wipe();
        Check.tell(x, text);
        return text.length() + 1;
    }

    /** How many calls were made. */
    private static long threeLet(BellSeconds x) {
        int calls = told(x, "TB21B10P021193P010095Q344P110098");
        sure(x.tower());
        sure(x.let(0, 5));
        sure(x.let(1, 0));
        sure(x.let(3, 0));
        sure(x.keep(0));
        sure(x.move(3, 1));
        sure(x.hear(0, 3));
        sure(x.hear(2, 0));
        x.seed(-77);
        return calls + 9 + told(x, "TB32Q129");
    }

    private static long faultyText(BellSeconds x) {
        int calls = told(x, "TB10B11B12P010007P121194P212098Q009P033011");
        sure(x.tower());
        sure(x.keep(0));
        sure(x.let(2, 3));
        sure(x.let(3, 0));
        sure(x.keep(1));
        sure(x.revoke(3));
        x.seed(Long.MAX_VALUE);
        sure(x.hear(3, 4));
        return calls + 8 + told(x, "TB10P0");
    }

    private static long allFull(BellSeconds x) {
        int calls = told(x, "TB10P010095P010003Q994");
        sure(x.tower());
        sure(x.let(1, 0));
        sure(x.let(0, 1));
        for (int second = 2; second <= 9; second++) sure(x.move(0, second));
        for (int second = 8; second >= 2; second--) sure(x.move(0, second));
        for (int second = 0; second < 6; second++) sure(x.hear(second, second == 0 || second == 2 ? 1 : 0));
        sure(x.keep(1));
        return calls + 25 + told(x, "TB32B31B30P231099P131188P031277P233366P132455B10");
    }

    private static long goneOn(BellSeconds x) {
        int calls = told(x, "TB10B10P010035P110033Q992P110031Q017");
        sure(x.tower());
        sure(x.let(0, 3));
        sure(x.let(4, 0));
        sure(x.keep(0));
        sure(x.again(0));
        sure(x.hear(0, 1));
        sure(x.hear(0, 2));
        x.seed(12345);
        return calls + 8;
    }

    private static long allLet(BellSeconds x) {
        int calls = told(x, "TB30B12B10Q001P010399P110892P210092Q119");
        sure(x.tower());
        sure(x.let(0, 0));
        sure(x.let(1, 7));
        sure(x.let(2, 8));
        sure(x.let(3, 9));
        sure(x.let(4, 1));
        sure(x.keep(1));
        sure(x.undo());
        sure(x.let(4, 1));
        return calls + 9;
    }

    // ---- all that an object holds

    private static final class Look {
        private final BellSeconds x = new BellSeconds();
        private final Map<Part, List<Long>> seen = new EnumMap<>(Part.class);
        private long answer = 0;
        private long calls = 0;

        private void note(Part part, long got) {
            calls++;
            seen.computeIfAbsent(part, p -> new ArrayList<>()).add(got);
        }
    }

    /** Asks first what changes nothing, then takes the object apart. */
    private static Look lookAt(Call setting, Call call) {
        Look look = new Look();
        look.calls = setting.step().on(look.x);
        if (call != null) {
            look.answer = call.step().on(look.x);
            look.calls++;
        }
        text(look);
        tower(look);
        day(look);
        heard(look);
        look.note(Part.SEED, look.x.seed(0));
        undoAll(look);
        goOnFrom(look, 0);
        goOnFrom(look, 1);
        look.note(Part.HEARD, look.x.hear(0, 0));
        look.note(Part.TEXT, look.x.tower());
        if (look.seen.get(Part.TEXT).get(2) >= 0) partsOf(look, Part.TEXT);
        return look;
    }

    private static void text(Look look) {
        look.note(Part.TEXT, look.x.count(0));
        look.note(Part.TEXT, look.x.fault());
    }

    private static void partsOf(Look look, Part part) {
        for (int bell = 0; bell < 3; bell++) {
            for (int what = 0; what < 2; what++) look.note(part, look.x.bell(bell, what));
        }
        for (int bidder = 0; bidder < 5; bidder++) {
            for (int what = 0; what < 6; what++) look.note(part, look.x.bidder(bidder, what));
        }
    }

    private static void tower(Look look) {
        BellSeconds x = look.x;
        look.note(Part.TOWER, x.count(1));
        look.note(Part.TOWER, x.count(2));
        partsOf(look, Part.TOWER);
        for (int bidder = 0; bidder < 5; bidder++) {
            look.note(Part.TOWER, x.bidder(bidder, 7));
            look.note(Part.TOWER, x.bestOf(bidder));
            look.note(Part.TOWER, x.price(bidder));
        }
        for (int those = 0; those < 32; those = 2 * those + 1) look.note(Part.TOWER, x.best(those));
        look.note(Part.TOWER, x.many());
        look.note(Part.TOWER, x.unwanted());
    }

    private static void day(Look look) {
        BellSeconds x = look.x;
        for (int what = 3; what <= 5; what++) look.note(Part.DAY, x.count(what));
        for (int second = 0; second <= 9; second++) look.note(Part.DAY, x.rings(second));
        for (int bell = 0; bell < 3; bell++) look.note(Part.DAY, x.bell(bell, 2));
        for (int bidder = 0; bidder < 5; bidder++) {
            look.note(Part.DAY, x.bidder(bidder, 6));
            look.note(Part.DAY, x.room(bidder, 0));
            look.note(Part.DAY, x.room(bidder, 1));
            for (int second = 0; second <= 9; second += 3) look.note(Part.DAY, x.clashes(bidder, second));
        }
        look.note(Part.DAY, x.beside());
        look.note(Part.DAY, x.hands());
    }

    private static void heard(Look look) {
        look.note(Part.HEARD, look.x.count(7));
        for (int what = 0; what < 3; what++) look.note(Part.HEARD, look.x.fit(what));
        for (int second = 0; second <= 9; second++) {
            look.note(Part.HEARD, look.x.likely(second, true));
            look.note(Part.HEARD, look.x.likely(second, false));
        }
    }

    private static void letFrom(Look look, Part part) {
        for (int bidder = 0; bidder < 5; bidder++) look.note(part, look.x.bidder(bidder, 6));
    }

    private static void undoAll(Look look) {
        look.note(Part.ACTS, look.x.count(6));
        for (int act = 0; act < 17; act++) {
            long left = look.x.undo();
            look.note(Part.ACTS, left);
            letFrom(look, Part.ACTS);
            if (left < 0) return;
        }
    }

    /** An empty slot tells nothing of who is let. */
    private static void goOnFrom(Look look, int slot) {
        long worth = look.x.again(slot);
        look.note(Part.KEPT, worth);
        if (worth >= 0) letFrom(look, Part.KEPT);
    }
}
