/** A bell tower that leases its strokes by the second; ../shared/DOC.md says what each call answers. */
public final class BellSeconds {
    public static final int UNKNOWN = -1, OUTSIDE = -2, STATE = -3, FULL = -4, NONE = -9;

    private static final int SECONDS = 10;
    private static final int ALL_SECONDS = 1023;
    /** A stroke that ends with the last SECOND is damped for two more, and TAKES its BELL there too. */
    private static final int TAKEN_SECONDS = 12;
    /** One SECOND's bit, times this, stands for that SECOND of each of the three BELLS. */
    private static final int EVERY_BELL = 1 + (1 << 10) + (1 << 20);
    private static final int MOST_LETTERS = 48;
    private static final int MOST_BELLS = 3;
    private static final int MOST_BIDDERS = 5;
    private static final int EVERY_BIDDER = 31;
    private static final int MOST_STROKES = 15;
    private static final int MOST_ACTS = 16;
    private static final int MOST_HEARD = 6;
    private static final int MOST_THINGS = 5;
    private static final int MOST_TIMES = 20;
    private static final int MOST_BID = 9;
    private static final long SEED_TIMES = 6364136223846793005L;
    private static final long SEED_MORE = 1442695040888963407L;

    private final Text text;
    private final Tower tower;
    private final Day now;
    private final Day trial;
    private final Slot slot0;
    private final Slot slot1;
    private final Acts acts;
    private final Letting letting;
    private final Heard heard;
    private final Fitting fitting;
    private final Ringers ringers;
    private final int[] things;
    private long seed;

    public BellSeconds() {
        text = new Text();
        tower = new Tower();
        now = new Day(tower);
        trial = new Day(tower);
        slot0 = new Slot(tower);
        slot1 = new Slot(tower);
        acts = new Acts();
        letting = new Letting(tower);
        heard = new Heard();
        fitting = new Fitting(tower);
        ringers = new Ringers(tower);
        things = new int[MOST_THINGS];
        seed = 0L;
    }

    // ---- the tower

    public int write(int letter) {
        if (letter < 0 || letter > 255) {
            return OUTSIDE;
        }
        return text.append(letter);
    }

    public int wipe() {
        return text.clear();
    }

    public int fault() {
        return text.firstFault();
    }

    public int tower() {
        if (text.firstFault() != NONE) {
            return STATE;
        }
        tower.build(text);
        now.clear();
        acts.clear();
        slot0.forget();
        slot1.forget();
        return 10 * tower.bells + tower.bidders;
    }

    public int bell(int bell, int what) {
        if (!tower.hasBell(bell)) {
            return UNKNOWN;
        }
        switch (what) {
            case 0:
                return at(tower.ringTime, bell);
            case 1:
                return at(tower.dampTime, bell);
            case 2:
                return secondsOf(now.ringing(), bell);
            default:
                return OUTSIDE;
        }
    }

    public int bidder(int bidder, int what) {
        if (!tower.hasBidder(bidder)) {
            return UNKNOWN;
        }
        switch (what) {
            case 0:
                return at(tower.bellOf, bidder);
            case 1:
                return at(tower.strokes, bidder);
            case 2:
                return at(tower.between, bidder);
            case 3:
                return at(tower.from, bidder);
            case 4:
                return at(tower.to, bidder);
            case 5:
                return at(tower.coins, bidder);
            case 6:
                return now.secondOf(bidder);
            case 7:
                return at(tower.begins, bidder);
            default:
                return OUTSIDE;
        }
    }

    public int rings(int second) {
        if (!isSecond(second)) {
            return OUTSIDE;
        }
        return bellsAt(now.ringing(), second);
    }

    public int clashes(int bidder, int second) {
        if (!tower.hasBidder(bidder)) {
            return UNKNOWN;
        }
        if (!isSecond(second)) {
            return OUTSIDE;
        }
        if (!tower.mayBegin(bidder, second)) {
            return STATE;
        }
        return now.clashing(bidder, second);
    }

    // ---- acts

    public int let(int bidder, int second) {
        if (!tower.hasBidder(bidder)) {
            return UNKNOWN;
        }
        if (!isSecond(second)) {
            return OUTSIDE;
        }
        if (now.isLet(bidder) || !now.fits(bidder, second)) {
            return STATE;
        }
        act(bidder, second + 1);
        return now.worth();
    }

    public int revoke(int bidder) {
        if (!tower.hasBidder(bidder)) {
            return UNKNOWN;
        }
        if (!now.isLet(bidder)) {
            return STATE;
        }
        act(bidder, 0);
        return now.worth();
    }

    public int move(int bidder, int second) {
        if (!tower.hasBidder(bidder)) {
            return UNKNOWN;
        }
        if (!isSecond(second)) {
            return OUTSIDE;
        }
        if (!now.isLet(bidder) || now.secondOf(bidder) == second || !now.fits(bidder, second)) {
            return STATE;
        }
        int was = now.secondOf(bidder);
        act(bidder, second + 1);
        return was;
    }

    public int undo() {
        if (acts.size == 0) {
            return STATE;
        }
        acts.takeBack(now);
        return acts.size;
    }

    private void act(int bidder, int told) {
        acts.append(bidder, now.toldOf(bidder));
        now.tell(bidder, told);
    }

    // ---- lettings

    public int best(int those) {
        if (those < 0 || those > tower.everyone()) {
            return OUTSIDE;
        }
        return letting.mostWorth(those);
    }

    public int bestOf(int bidder) {
        if (!tower.hasBidder(bidder)) {
            return UNKNOWN;
        }
        letting.mostWorth(tower.everyone());
        return letting.firstDay.secondOf(bidder);
    }

    public int beside() {
        return letting.mostBeside(now);
    }

    public int price(int bidder) {
        if (!tower.hasBidder(bidder)) {
            return UNKNOWN;
        }
        int most = letting.mostWorth(tower.everyone());
        if (!letting.firstDay.isLet(bidder)) {
            return NONE;
        }
        int othersHave = most - at(tower.coins, bidder);
        return letting.mostWorth(tower.everyone() & ~(1 << bidder)) - othersHave;
    }

    public int many() {
        return letting.mostAtOnce();
    }

    public int room(int bidder, int what) {
        if (!tower.hasBidder(bidder)) {
            return UNKNOWN;
        }
        if (what < 0 || what > 1) {
            return OUTSIDE;
        }
        if (now.isLet(bidder)) {
            return STATE;
        }
        int second = now.cheapestBegin(bidder);
        return second == NONE || what == 1 ? second : now.worthOf(now.clashing(bidder, second));
    }

    public int hands() {
        return ringers.fewest(now);
    }

    public int judge(int n, long row) {
        if (n < 1 || n > MOST_THINGS || row < 0L) {
            return OUTSIDE;
        }
        long left = row;
        for (int place = MOST_THINGS - 1; place >= 0; place--) {
            if (place < n) {
                things[place] = (int) (left % 100L);
                left = left / 100L;
            }
        }
        if (left != 0L) {
            return OUTSIDE;
        }
        return firstThatCanNotBe(n);
    }

    private int firstThatCanNotBe(int n) {
        trial.copy(now);
        for (int place = 0; place < MOST_THINGS && place < n; place++) {
            if (!trial.letIfCan(things[place] / 10, things[place] % 10)) {
                return place;
            }
        }
        return NONE;
    }

    // ---- heard

    public int hear(int second, int bells) {
        if (!isSecond(second) || bells < 0 || bells > tower.everyBell()) {
            return OUTSIDE;
        }
        return heard.append(second, bells);
    }

    public int unhear() {
        return heard.clear();
    }

    public int fit(int what) {
        if (what < 0 || what > 2) {
            return OUTSIDE;
        }
        fitting.tally(heard, 0);
        if (what == 0) {
            return fitting.days;
        }
        if (fitting.days == 0) {
            return NONE;
        }
        return what == 1 ? fitting.inAll : tower.everyone() & ~fitting.inSome;
    }

    public int likely(int second, boolean upper) {
        if (!isSecond(second)) {
            return OUTSIDE;
        }
        fitting.tally(heard, EVERY_BELL << second);
        if (fitting.days == 0) {
            return STATE;
        }
        int above = fitting.days - fitting.silentDays;
        int common = commonDivisor(fitting.days, above);
        if (common < 1) {
            return STATE;
        }
        return (upper ? above : fitting.days) / common;
    }

    public int unwanted() {
        return ALL_SECONDS & ~tower.wantedSeconds();
    }

    // ---- sealed, seeds

    public int sealed(int a, int b, int what) {
        if (!isBid(a) || !isBid(b) || what < 0 || what > 1) {
            return OUTSIDE;
        }
        int rests = 0;
        int first = NONE;
        for (int one = 0; one <= MOST_BID; one++) {
            for (int other = 0; other <= MOST_BID; other++) {
                if (rests(a, b, one, other)) {
                    rests++;
                    first = first == NONE ? 10 * one + other : first;
                }
            }
        }
        return what == 0 ? rests : first;
    }

    public long seed(long v) {
        long was = seed;
        seed = v;
        return was;
    }

    public int day(int m) {
        if (m < 1 || m > MOST_TIMES) {
            return OUTSIDE;
        }
        trial.copy(now);
        for (int time = 0; time < m; time++) {
            seed = seed * SEED_TIMES + SEED_MORE;
            int drawn = (int) ((seed >>> 33) % 50L);
            trial.letIfCan(drawn / 10, drawn % 10);
        }
        return trial.worth();
    }

    // ---- slots

    public int keep(int slot) {
        Slot kept = slotOf(slot);
        if (kept == null) {
            return UNKNOWN;
        }
        kept.fill(now);
        return now.worth();
    }

    public int again(int slot) {
        Slot kept = slotOf(slot);
        if (kept == null) {
            return UNKNOWN;
        }
        if (!kept.full) {
            return STATE;
        }
        now.copy(kept.day);
        acts.clear();
        return now.worth();
    }

    public int count(int what) {
        switch (what) {
            case 0:
                return text.length;
            case 1:
                return tower.bells;
            case 2:
                return tower.bidders;
            case 3:
                return now.everyoneLet();
            case 4:
                return now.worth();
            case 5:
                return ofAnyBell(now.ringing());
            case 6:
                return acts.size;
            case 7:
                return heard.size;
            default:
                return OUTSIDE;
        }
    }

    private Slot slotOf(int slot) {
        if (slot == 0) {
            return slot0;
        }
        return slot == 1 ? slot1 : null;
    }

    // ---- small things that all use

    private static boolean isSecond(int second) {
        return second >= 0 && second < SECONDS;
    }

    private static boolean isBid(int bid) {
        return bid >= 0 && bid <= MOST_BID;
    }

    private static int at(int[] row, int place) {
        return place >= 0 && place < row.length ? row[place] : NONE;
    }

    /** So many SECONDS, as bits, from a SECOND on. */
    private static int stretch(int from, int many) {
        return ((1 << many) - 1) << from;
    }

    private static int secondsOf(int ringing, int bell) {
        return ringing >>> SECONDS * bell & ALL_SECONDS;
    }

    private static int ofAnyBell(int ringing) {
        return (ringing | ringing >>> SECONDS | ringing >>> 2 * SECONDS) & ALL_SECONDS;
    }

    private static int bellsAt(int ringing, int second) {
        int bells = 0;
        for (int bell = 0; bell < MOST_BELLS; bell++) {
            bells |= (secondsOf(ringing, bell) >>> second & 1) << bell;
        }
        return bells;
    }

    private static int commonDivisor(int a, int b) {
        int greater = a;
        int lesser = b;
        for (int step = 0; step < 64 && lesser != 0; step++) {
            int left = greater % lesser;
            greater = lesser;
            lesser = left;
        }
        return greater;
    }

    private static boolean rests(int a, int b, int one, int other) {
        for (int bid = 0; bid <= MOST_BID; bid++) {
            if (gainOfOne(a, bid, other) > gainOfOne(a, one, other)) {
                return false;
            }
            if (gainOfOther(b, one, bid) > gainOfOther(b, one, other)) {
                return false;
            }
        }
        return true;
    }

    private static int gainOfOne(int worth, int one, int other) {
        return one >= other ? worth - one : 0;
    }

    private static int gainOfOther(int worth, int one, int other) {
        return other > one ? worth - other : 0;
    }

    /** THE TEXT, and where it first can be no TOWER. */
    private static final class Text {
        private final int[] letters = new int[MOST_LETTERS];
        private int length = 0;

        int append(int letter) {
            if (length < 0 || length >= MOST_LETTERS) {
                return FULL;
            }
            letters[length] = letter;
            length++;
            return length;
        }

        int clear() {
            int was = length;
            length = 0;
            return was;
        }

        int letterAt(int place) {
            return place < length ? at(letters, place) : NONE;
        }

        int figureAt(int place) {
            return letterAt(place) - '0';
        }

        int firstFault() {
            if (letterAt(0) != 'T') {
                return 0;
            }
            int bells = 0;
            int bidders = 0;
            int place = 1;
            for (int part = 0; part < MOST_LETTERS && place < length; part++) {
                int kind = letterAt(place);
                if (!mayBeTold(kind, bells, bidders)) {
                    return place;
                }
                int end = place + sizeOf(kind);
                int fault = faultInPart(kind, place, bells);
                if (fault < end) {
                    return fault;
                }
                bells += kind == 'B' ? 1 : 0;
                bidders += kind == 'B' ? 0 : 1;
                place = end;
            }
            return NONE;
        }

        /** The place behind the part, if it has no fault. */
        private int faultInPart(int kind, int place, int bells) {
            int size = sizeOf(kind);
            for (int k = 1; k < size; k++) {
                if (place + k >= length) {
                    return length;
                }
                int figure = figureAt(place + k);
                if (figure < least(kind, k, figureAt(place + k - 1)) || figure > most(kind, k, bells)) {
                    return place + k;
                }
            }
            return place + size;
        }

        /** A PEAL ahead of all BELLS has no BELL that could be told, so its first letter is the fault. */
        private static boolean mayBeTold(int kind, int bells, int bidders) {
            switch (kind) {
                case 'B':
                    return bells < MOST_BELLS;
                case 'P':
                    return bells > 0 && bidders < MOST_BIDDERS;
                case 'Q':
                    return bidders < MOST_BIDDERS;
                default:
                    return false;
            }
        }

        static int sizeOf(int kind) {
            switch (kind) {
                case 'B':
                    return 3;
                case 'P':
                    return 7;
                case 'Q':
                    return 4;
                default:
                    return 1;
            }
        }

        private static int least(int kind, int k, int before) {
            switch (kind) {
                case 'B':
                    return k == 1 ? 1 : 0;
                case 'P':
                    return k == 5 ? before : k == 2 || k == 6 ? 1 : 0;
                default:
                    return k == 2 ? before : k == 3 ? 1 : 0;
            }
        }

        private static int most(int kind, int k, int bells) {
            switch (kind) {
                case 'B':
                    return k == 1 ? 3 : 2;
                case 'P':
                    return k == 1 ? bells - 1 : k == 2 || k == 3 ? 3 : 9;
                default:
                    return 9;
            }
        }
    }

    /**
     * THE TOWER. What a BIDDER does from a SECOND on is held as bits, so that a CLASH is one look:
     * TAKES has 12 bits a BELL; RINGS has 10 bits a BELL; WANTS (of a QUIET) stands in the same 10 bits of each BELL.
     */
    private static final class Tower {
        private int bells = 0;
        private int bidders = 0;
        private final int[] ringTime = new int[MOST_BELLS];
        private final int[] dampTime = new int[MOST_BELLS];
        private final int[] bellOf = new int[MOST_BIDDERS];
        private final int[] strokes = new int[MOST_BIDDERS];
        private final int[] between = new int[MOST_BIDDERS];
        private final int[] from = new int[MOST_BIDDERS];
        private final int[] to = new int[MOST_BIDDERS];
        private final int[] coins = new int[MOST_BIDDERS];
        private final int[] begins = new int[MOST_BIDDERS];
        private final int[] wanted = new int[MOST_BIDDERS];
        private final long[] taken = new long[MOST_BIDDERS * SECONDS];
        private final int[] rung = new int[MOST_BIDDERS * SECONDS];

        boolean hasBell(int bell) {
            return bell >= 0 && bell < bells;
        }

        boolean hasBidder(int bidder) {
            return bidder >= 0 && bidder < bidders;
        }

        int everyBell() {
            return (1 << bells) - 1;
        }

        int everyone() {
            return (1 << bidders) - 1;
        }

        boolean mayBegin(int bidder, int second) {
            return bidder >= 0 && bidder < MOST_BIDDERS && second >= 0 && second < SECONDS
                    && (begins[bidder] >>> second & 1) == 1;
        }

        boolean isQuiet(int bidder) {
            return hasBidder(bidder) && at(bellOf, bidder) == NONE;
        }

        boolean isPealOf(int bidder, int bell) {
            return hasBidder(bidder) && at(bellOf, bidder) == bell;
        }

        long takes(int bidder, int second) {
            boolean told = bidder >= 0 && bidder < MOST_BIDDERS && second >= 0 && second < SECONDS;
            return told ? taken[SECONDS * bidder + second] : 0L;
        }

        int ringing(int bidder, int second) {
            boolean told = bidder >= 0 && bidder < MOST_BIDDERS && second >= 0 && second < SECONDS;
            return told ? rung[SECONDS * bidder + second] : 0;
        }

        int wants(int bidder) {
            return bidder >= 0 && bidder < MOST_BIDDERS ? wanted[bidder] : 0;
        }

        int wantedSeconds() {
            int seconds = 0;
            for (int bidder = 0; bidder < MOST_BIDDERS; bidder++) {
                seconds |= ofAnyBell(wants(bidder));
                for (int second = 0; second < SECONDS; second++) {
                    seconds |= ofAnyBell(ringing(bidder, second));
                }
            }
            return seconds;
        }

        /** THE TEXT has no FAULT: the caller looked. */
        void build(Text text) {
            clear();
            int place = 1;
            for (int part = 0; part < MOST_LETTERS && place < text.length; part++) {
                int kind = text.letterAt(place);
                if (kind == 'B') {
                    addBell(text.figureAt(place + 1), text.figureAt(place + 2));
                } else {
                    addBidder(kind, text, place);
                }
                place += Text.sizeOf(kind);
            }
        }

        /** Of BIDDERS that there are not nothing may be left: their rows are looked at too. */
        private void clear() {
            bells = 0;
            bidders = 0;
            for (int bidder = 0; bidder < MOST_BIDDERS; bidder++) {
                begins[bidder] = 0;
                wanted[bidder] = 0;
                for (int second = 0; second < SECONDS; second++) {
                    layPlace(bidder, second, 0L, 0);
                }
            }
        }

        private void addBell(int ring, int damp) {
            if (bells < 0 || bells >= MOST_BELLS) {
                return;
            }
            ringTime[bells] = ring;
            dampTime[bells] = damp;
            bells++;
        }

        private void addBidder(int kind, Text text, int place) {
            int bidder = bidders;
            if (bidder < 0 || bidder >= MOST_BIDDERS) {
                return;
            }
            boolean peal = kind == 'P';
            int times = peal ? place + 4 : place + 1;
            bellOf[bidder] = peal ? text.figureAt(place + 1) : NONE;
            strokes[bidder] = peal ? text.figureAt(place + 2) : 0;
            between[bidder] = peal ? text.figureAt(place + 3) : 0;
            from[bidder] = text.figureAt(times);
            to[bidder] = text.figureAt(times + 1);
            coins[bidder] = text.figureAt(times + 2);
            bidders++;
            if (peal) {
                layPeal(bidder);
            } else {
                wanted[bidder] = stretch(from[bidder], to[bidder] - from[bidder] + 1) * EVERY_BELL;
                begins[bidder] = 1 << from[bidder];
            }
        }

        private void layPeal(int bidder) {
            int bell = at(bellOf, bidder);
            int many = at(strokes, bidder);
            int gap = at(between, bidder);
            int ring = at(ringTime, bell);
            int damp = at(dampTime, bell);
            int lasts = many * ring + (many - 1) * gap;
            int last = many > 1 && gap < damp ? NONE : at(to, bidder) + 1 - lasts;
            int may = 0;
            for (int second = at(from, bidder); second <= last && second < SECONDS; second++) {
                int rings = 0;
                int takes = 0;
                for (int stroke = 0; stroke < many; stroke++) {
                    rings |= stretch(second + stroke * (ring + gap), ring);
                    takes |= stretch(second + stroke * (ring + gap), ring + damp);
                }
                layPlace(bidder, second, (long) takes << TAKEN_SECONDS * bell, rings << SECONDS * bell);
                may |= 1 << second;
            }
            begins[bidder] = may;
        }

        private void layPlace(int bidder, int second, long takes, int rings) {
            if (bidder >= 0 && bidder < MOST_BIDDERS && second >= 0 && second < SECONDS) {
                taken[SECONDS * bidder + second] = takes;
                rung[SECONDS * bidder + second] = rings;
            }
        }

        boolean clash(int one, int second, int other, int otherSecond) {
            return (takes(one, second) & takes(other, otherSecond)) != 0L
                    || (ringing(one, second) & wants(other)) != 0
                    || (ringing(other, otherSecond) & wants(one)) != 0;
        }
    }

    /** Who is LET from which SECOND: of each BIDDER 0, or the SECOND and 1. */
    private static final class Day {
        private final Tower tower;
        private final int[] told = new int[MOST_BIDDERS];

        Day(Tower tower) {
            this.tower = tower;
        }

        void clear() {
            for (int bidder = 0; bidder < MOST_BIDDERS; bidder++) {
                told[bidder] = 0;
            }
        }

        void copy(Day other) {
            for (int bidder = 0; bidder < MOST_BIDDERS; bidder++) {
                told[bidder] = other.told[bidder];
            }
        }

        void tell(int bidder, int as) {
            if (bidder >= 0 && bidder < MOST_BIDDERS) {
                told[bidder] = as;
            }
        }

        int toldOf(int bidder) {
            return bidder >= 0 && bidder < MOST_BIDDERS ? told[bidder] : 0;
        }

        boolean isLet(int bidder) {
            return toldOf(bidder) != 0;
        }

        int secondOf(int bidder) {
            int as = toldOf(bidder);
            return as != 0 ? as - 1 : NONE;
        }

        int everyoneLet() {
            int those = 0;
            for (int bidder = 0; bidder < MOST_BIDDERS; bidder++) {
                those |= isLet(bidder) ? 1 << bidder : 0;
            }
            return those;
        }

        int worth() {
            return worthOf(everyoneLet());
        }

        int worthOf(int those) {
            int worth = 0;
            for (int bidder = 0; bidder < MOST_BIDDERS; bidder++) {
                worth += (those >>> bidder & 1) * tower.coins[bidder];
            }
            return worth;
        }

        int ringing() {
            int rung = 0;
            for (int bidder = 0; bidder < MOST_BIDDERS; bidder++) {
                rung |= tower.ringing(bidder, secondOf(bidder));
            }
            return rung;
        }

        int clashing(int bidder, int second) {
            int those = 0;
            for (int other = 0; other < MOST_BIDDERS; other++) {
                if (other != bidder && told[other] != 0 && tower.clash(bidder, second, other, told[other] - 1)) {
                    those |= 1 << other;
                }
            }
            return those;
        }

        boolean fits(int bidder, int second) {
            return tower.mayBegin(bidder, second) && clashing(bidder, second) == 0;
        }

        boolean letIfCan(int bidder, int second) {
            boolean can = !isLet(bidder) && fits(bidder, second);
            if (can) {
                tell(bidder, second + 1);
            }
            return can;
        }

        /** Where the least WORTH stands in the way. */
        int cheapestBegin(int bidder) {
            int least = 0;
            int first = NONE;
            for (int second = 0; second < SECONDS; second++) {
                if (tower.mayBegin(bidder, second)) {
                    int worth = worthOf(clashing(bidder, second));
                    if (first == NONE || worth < least) {
                        least = worth;
                        first = second;
                    }
                }
            }
            return first;
        }
    }

    private static final class Slot {
        private final Day day;
        private boolean full = false;

        Slot(Tower tower) {
            day = new Day(tower);
        }

        void fill(Day other) {
            day.copy(other);
            full = true;
        }

        void forget() {
            full = false;
        }
    }

    /** THE ROW of ACTS: of each the BIDDER, and what the DAY told of it ahead of the ACT. */
    private static final class Acts {
        private final int[] who = new int[MOST_ACTS];
        private final int[] was = new int[MOST_ACTS];
        private int size = 0;

        void clear() {
            size = 0;
        }

        void append(int bidder, int told) {
            if (size >= MOST_ACTS) {
                forgetFirst();
            }
            if (size >= 0 && size < MOST_ACTS) {
                who[size] = bidder;
                was[size] = told;
                size++;
            }
        }

        private void forgetFirst() {
            for (int place = 1; place < MOST_ACTS; place++) {
                who[place - 1] = who[place];
                was[place - 1] = was[place];
            }
            size = MOST_ACTS - 1;
        }

        void takeBack(Day day) {
            if (size > 0 && size <= MOST_ACTS) {
                size--;
                day.tell(who[size], was[size]);
            }
        }
    }

    /** Looks for the DAY of most weight: COINS, or 1 for each BIDDER. */
    private static final class Letting {
        private final Tower tower;
        private final Day trial;
        private final Day firstDay;
        private final int[] weight = new int[MOST_BIDDERS];
        /** What all BIDDERS from one on would bring together. */
        private final int[] rest = new int[MOST_BIDDERS + 1];
        private int most = 0;

        Letting(Tower tower) {
            this.tower = tower;
            trial = new Day(tower);
            firstDay = new Day(tower);
        }

        int mostWorth(int those) {
            weigh(those, true);
            return search(0L, 0, 0);
        }

        int mostAtOnce() {
            weigh(EVERY_BIDDER, false);
            return search(0L, 0, 0);
        }

        int mostBeside(Day day) {
            weigh(~day.everyoneLet(), true);
            long takes = 0L;
            int wants = 0;
            for (int bidder = 0; bidder < MOST_BIDDERS; bidder++) {
                if (day.isLet(bidder)) {
                    takes |= tower.takes(bidder, day.secondOf(bidder));
                    wants |= tower.wants(bidder);
                }
            }
            return search(takes, day.ringing(), wants);
        }

        private void weigh(int those, boolean byCoins) {
            rest[MOST_BIDDERS] = 0;
            for (int bidder = MOST_BIDDERS - 1; bidder >= 0; bidder--) {
                boolean meant = tower.hasBidder(bidder) && (those >>> bidder & 1) == 1;
                weight[bidder] = !meant ? 0 : byCoins ? tower.coins[bidder] : 1;
                rest[bidder] = rest[bidder + 1] + weight[bidder];
            }
        }

        private int search(long takes, int rings, int wants) {
            most = NONE;
            walk(0, 0, takes, rings, wants);
            return most;
        }

        /** Goes in the order of DAYS and takes only what is more, so of like ones the first one stays. */
        private void walk(int bidder, int gained, long takes, int rings, int wants) {
            if (bidder < 0 || bidder > MOST_BIDDERS || gained + rest[bidder] <= most) {
                return;
            }
            if (bidder == MOST_BIDDERS) {
                most = gained;
                firstDay.copy(trial);
                return;
            }
            trial.tell(bidder, 0);
            walk(bidder + 1, gained, takes, rings, wants);
            for (int second = 0; second < SECONDS && weight[bidder] > 0; second++) {
                if (tower.mayBegin(bidder, second)
                        && (tower.takes(bidder, second) & takes) == 0L
                        && (tower.ringing(bidder, second) & wants) == 0
                        && (tower.wants(bidder) & rings) == 0) {
                    trial.tell(bidder, second + 1);
                    walk(bidder + 1, gained + weight[bidder], takes | tower.takes(bidder, second),
                            rings | tower.ringing(bidder, second), wants | tower.wants(bidder));
                }
            }
        }
    }

    /** What is HEARD, as it was told: BELLS may come and go with THE TOWER. */
    private static final class Heard {
        private final int[] seconds = new int[MOST_HEARD];
        private final int[] bells = new int[MOST_HEARD];
        private int size = 0;

        int append(int second, int those) {
            if (size < 0 || size >= MOST_HEARD) {
                return FULL;
            }
            seconds[size] = second;
            bells[size] = those;
            size++;
            return size;
        }

        int clear() {
            int was = size;
            size = 0;
            return was;
        }

        /** RINGS that must be (or must not be) by all that is HEARD, of BELLS that there are. */
        int told(boolean rung, int manyBells) {
            int rings = 0;
            for (int place = 0; place < MOST_HEARD && place < size; place++) {
                for (int bell = 0; bell < MOST_BELLS && bell < manyBells; bell++) {
                    boolean rang = (bells[place] >>> bell & 1) == 1;
                    rings |= rang == rung ? 1 << SECONDS * bell + seconds[place] : 0;
                }
            }
            return rings;
        }
    }

    /**
     * Counts DAYS that FIT. PEALS of two BELLS never CLASH, so beside the same QUIETS the DAYS
     * of each BELL are counted for themselves and multiplied: far fewer than all DAYS are walked.
     */
    private static final class Fitting {
        private final Tower tower;
        private int days = 0;
        /** Those of the DAYS by which nothing RINGS in the SECOND that is asked for. */
        private int silentDays = 0;
        private int inAll = 0;
        private int inSome = 0;
        private int must = 0;
        private int asked = 0;
        private int bellDays = 0;
        private int bellSilentDays = 0;
        private int bellInAll = 0;
        private int bellInSome = 0;

        Fitting(Tower tower) {
            this.tower = tower;
        }

        void tally(Heard heard, int askedRings) {
            days = 0;
            silentDays = 0;
            inAll = EVERY_BIDDER;
            inSome = 0;
            asked = askedRings;
            must = heard.told(true, tower.bells);
            int mustNot = heard.told(false, tower.bells);
            for (int quiets = 0; quiets <= EVERY_BIDDER; quiets++) {
                if (areQuiets(quiets)) {
                    tallyBeside(quiets, mustNot);
                }
            }
        }

        private boolean areQuiets(int those) {
            for (int bidder = 0; bidder < MOST_BIDDERS; bidder++) {
                if ((those >>> bidder & 1) == 1 && !tower.isQuiet(bidder)) {
                    return false;
                }
            }
            return true;
        }

        /** What must not ring by what is HEARD is shut out as if a QUIET wanted it. */
        private void tallyBeside(int quiets, int mustNot) {
            int wants = mustNot;
            for (int bidder = 0; bidder < MOST_BIDDERS; bidder++) {
                wants |= (quiets >>> bidder & 1) == 1 ? tower.wants(bidder) : 0;
            }
            if ((wants & must) != 0) {
                return;
            }
            int product = 1;
            int silentProduct = 1;
            int surely = quiets;
            int perhaps = quiets;
            for (int bell = 0; bell < MOST_BELLS; bell++) {
                tallyBell(bell, wants);
                product *= bellDays;
                silentProduct *= bellSilentDays;
                surely |= bellInAll;
                perhaps |= bellInSome;
            }
            if (product > 0) {
                days += product;
                silentDays += silentProduct;
                inAll &= surely;
                inSome |= perhaps;
            }
        }

        private void tallyBell(int bell, int wants) {
            bellDays = 0;
            bellSilentDays = 0;
            bellInAll = EVERY_BIDDER;
            bellInSome = 0;
            walk(0, bell, 0L, 0, wants, 0);
        }

        private void walk(int bidder, int bell, long takes, int rings, int wants, int those) {
            if (bidder < 0 || bidder >= MOST_BIDDERS) {
                tallyDay(bell, rings, those);
                return;
            }
            walk(bidder + 1, bell, takes, rings, wants, those);
            if (!tower.isPealOf(bidder, bell)) {
                return;
            }
            for (int second = 0; second < SECONDS; second++) {
                if (tower.mayBegin(bidder, second)
                        && (tower.takes(bidder, second) & takes) == 0L
                        && (tower.ringing(bidder, second) & wants) == 0) {
                    walk(bidder + 1, bell, takes | tower.takes(bidder, second),
                            rings | tower.ringing(bidder, second), wants, those | 1 << bidder);
                }
            }
        }

        private void tallyDay(int bell, int rings, int those) {
            int mustOfBell = must & ALL_SECONDS << SECONDS * bell;
            if ((rings & mustOfBell) != mustOfBell) {
                return;
            }
            bellDays++;
            bellSilentDays += (rings & asked) == 0 ? 1 : 0;
            bellInAll &= those;
            bellInSome |= those;
        }
    }

    /**
     * The fewest ringers: as many as there are strokes, less one for each stroke whose ringer
     * goes on to another one. Who can go on to whom is paired off at most by ways that change pairs.
     */
    private static final class Ringers {
        private final Tower tower;
        private final int[] begin = new int[MOST_STROKES];
        private final int[] end = new int[MOST_STROKES];
        private final int[] bellAt = new int[MOST_STROKES];
        /** From which stroke the ringer of a stroke comes; NONE: from none. */
        private final int[] comesFrom = new int[MOST_STROKES];
        private int size = 0;
        private int seen = 0;

        Ringers(Tower tower) {
            this.tower = tower;
        }

        int fewest(Day day) {
            size = 0;
            for (int bidder = 0; bidder < MOST_BIDDERS; bidder++) {
                if (day.isLet(bidder)) {
                    addStrokes(bidder, day.secondOf(bidder));
                }
            }
            int ringers = size;
            for (int stroke = 0; stroke < MOST_STROKES && stroke < size; stroke++) {
                seen = 0;
                ringers -= goesOn(stroke, 0) ? 1 : 0;
            }
            return ringers;
        }

        private void addStrokes(int bidder, int second) {
            int bell = at(tower.bellOf, bidder);
            int ring = at(tower.ringTime, bell);
            int many = at(tower.strokes, bidder);
            for (int stroke = 0; stroke < many && size >= 0 && size < MOST_STROKES; stroke++) {
                begin[size] = second + stroke * (ring + at(tower.between, bidder));
                end[size] = begin[size] + ring;
                bellAt[size] = bell;
                comesFrom[size] = NONE;
                size++;
            }
        }

        private boolean goesOn(int stroke, int depth) {
            if (stroke < 0 || stroke >= MOST_STROKES || depth > MOST_STROKES) {
                return false;
            }
            for (int next = 0; next < MOST_STROKES && next < size; next++) {
                if ((seen >>> next & 1) == 0 && isInTime(stroke, next)) {
                    seen |= 1 << next;
                    if (comesFrom[next] == NONE || goesOn(comesFrom[next], depth + 1)) {
                        comesFrom[next] = stroke;
                        return true;
                    }
                }
            }
            return false;
        }

        private boolean isInTime(int stroke, int next) {
            return at(end, stroke) + Math.abs(at(bellAt, stroke) - at(bellAt, next)) <= at(begin, next);
        }
    }
}
