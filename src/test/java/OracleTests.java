import java.util.Random;

/** Long random runs: every answer of BellSeconds beside the Oracle's. */
public final class OracleTests {
    private static final int RUNS = 2000;
    private static final int CALLS = 512;
    private static int wrong = 0;
    private static final int[] due = new int[32];

    public static void main(String[] args) {
        for (int run = 0; run < RUNS && wrong < 20; run++) new Run(run).go();
        for (int call = 0; call < 31; call++) {
            if (due[call] < 1000) {
                wrong++;
                System.out.println("call " + call + " was made only " + due[call] + " times");
            }
        }
        System.out.println(wrong == 0 ? "all answers are as due" : wrong + " answers are not as due");
        if (wrong != 0) System.exit(1);
    }

    private static final class Run {
        private final int number;
        private final Random random;
        private final BellSeconds x = new BellSeconds();
        private final Oracle y = new Oracle();
        private final StringBuilder log = new StringBuilder();
        private int made = 0;

        Run(int number) {
            this.number = number;
            random = new Random(number);
        }

        void go() {
            while (made < CALLS && wrong < 20) {
                if (made == 0 || random.nextInt(120) == 0) newTower();
                else anyCall();
            }
        }

        private void see(int call, String told, long got, long want) {
            made++;
            due[call]++;
            log.append(told).append(" = ").append(got).append('\n');
            if (got != want) {
                wrong++;
                System.out.println("run " + number + ": " + told + " answered " + got + ", due is " + want);
                if (wrong == 1) System.out.println(log);
            }
        }

        private int upTo(int n) { return random.nextInt(n + 1); }
        private char figure(int from, int to) { return (char) ('0' + from + upTo(to - from)); }

        private void newTower() {
            String text = random.nextInt(6) == 0 ? brokenText() : goodText();
            see(1, "wipe()", x.wipe(), y.wipe());
            for (char c : text.toCharArray()) {
                see(0, "write(" + (int) c + ")", x.write(c), y.write(c));
                if (random.nextInt(12) == 0) see(2, "fault()", x.fault(), y.fault());
            }
            see(2, "fault()", x.fault(), y.fault());
            see(3, "tower()", x.tower(), y.tower());
        }

        private String goodText() {
            StringBuilder s = new StringBuilder("T");
            int bells = 0, bidders = 0;
            int wantedBells = Math.min(3, upTo(4)), wantedBidders = Math.min(5, upTo(8));
            boolean wide = random.nextInt(3) == 0;
            while (bells < wantedBells || bidders < wantedBidders) {
                if (bells < wantedBells && (bidders == wantedBidders || random.nextInt(2) == 0)) {
                    s.append('B').append(figure(1, wide ? 1 : 3)).append(figure(0, wide ? 1 : 2));
                    bells++;
                    continue;
                }
                if (bidders == wantedBidders) continue;
                int from = random.nextInt(wide ? 2 : 10), to = wide ? 9 : from + upTo(9 - from);
                if (random.nextInt(3) == 0) to = 9;
                if (bells > 0 && random.nextInt(4) != 0) {
                    s.append('P').append(figure(0, bells - 1)).append(figure(1, 3)).append(figure(0, wide ? 1 : 3));
                } else {
                    s.append('Q');
                }
                s.append((char) ('0' + from)).append((char) ('0' + to)).append(figure(1, wide ? 2 : 9));
                bidders++;
            }
            return s.toString();
        }

        private String brokenText() {
            StringBuilder s = new StringBuilder(goodText());
            String letters = "TBPQ0123456789" + (char) 0 + (char) 255 + "/:\n";
            for (int k = upTo(2); k >= 0; k--) {
                int at = upTo(s.length() - 1);
                char c = letters.charAt(random.nextInt(letters.length()));
                switch (random.nextInt(4)) {
                    case 0: s.setCharAt(at, c); break;
                    case 1: s.insert(at, c); break;
                    case 2: s.setLength(Math.max(1, at)); break;
                    default: s.append(goodText().substring(1));
                }
            }
            return s.toString();
        }

        private int number(int high) {
            int n = random.nextInt(40);
            if (n == 0) return -1;
            if (n == 1) return high + 1;
            if (n == 2) return random.nextInt();
            if (n == 3) return random.nextBoolean() ? Integer.MAX_VALUE : Integer.MIN_VALUE;
            return upTo(high);
        }

        private int someBidder() { return number(Math.max(0, y.count(2) - (random.nextInt(9) == 0 ? 0 : 1))); }
        private int someBell() { return number(Math.max(0, y.count(1) - (random.nextInt(9) == 0 ? 0 : 1))); }

        private int someSecond(int bidder) {
            int begins = y.bidder(bidder, 7);
            for (int k = 0; k < 4; k++) {
                int second = upTo(9);
                if (begins > 0 && (begins >> second & 1) == 1) return second;
            }
            return number(9);
        }

        /** Most runs keep a full tower; what empties it (or the row, or what is heard) comes seldom. */
        private int someCall() {
            int chance = random.nextInt(10);
            if (chance < 3) return 8;
            if (chance < 4) return 10;
            int call = random.nextInt(31);
            boolean empties = call == 1 || call == 3 || call == 9 || call == 11 || call == 21 || call == 29;
            return empties && number % 3 != 0 && random.nextInt(6) != 0 ? 8 : call;
        }

        private void anyCall() {
            int call = someCall();
            int b = someBidder(), s = someSecond(b), w;
            switch (call) {
                case 0: w = random.nextInt(3) == 0 ? number(255) : 48 + upTo(9); see(0, "write(" + w + ")", x.write(w), y.write(w)); break;
                case 1: if (random.nextInt(3) == 0) see(1, "wipe()", x.wipe(), y.wipe()); break;
                case 2: see(2, "fault()", x.fault(), y.fault()); break;
                case 3: if (random.nextInt(3) == 0) see(3, "tower()", x.tower(), y.tower()); break;
                case 4: b = someBell(); w = number(2); see(4, "bell(" + b + "," + w + ")", x.bell(b, w), y.bell(b, w)); break;
                case 5: w = number(7); see(5, "bidder(" + b + "," + w + ")", x.bidder(b, w), y.bidder(b, w)); break;
                case 6: s = number(9); see(6, "rings(" + s + ")", x.rings(s), y.rings(s)); break;
                case 7: see(7, "clashes(" + b + "," + s + ")", x.clashes(b, s), y.clashes(b, s)); break;
                case 8: see(8, "let(" + b + "," + s + ")", x.let(b, s), y.let(b, s)); break;
                case 9: see(9, "revoke(" + b + ")", x.revoke(b), y.revoke(b)); break;
                case 10: see(10, "move(" + b + "," + s + ")", x.move(b, s), y.move(b, s)); break;
                case 11: see(11, "undo()", x.undo(), y.undo()); break;
                case 12: w = number((1 << y.count(2)) - 1); see(12, "best(" + w + ")", x.best(w), y.best(w)); break;
                default: laterCall(call, b, s);
            }
        }

        private void laterCall(int call, int b, int s) {
            int w;
            boolean u = random.nextBoolean();
            switch (call) {
                case 13: see(13, "bestOf(" + b + ")", x.bestOf(b), y.bestOf(b)); break;
                case 14: see(14, "beside()", x.beside(), y.beside()); break;
                case 15: see(15, "price(" + b + ")", x.price(b), y.price(b)); break;
                case 16: see(16, "many()", x.many(), y.many()); break;
                case 17: w = number(1); see(17, "room(" + b + "," + w + ")", x.room(b, w), y.room(b, w)); break;
                case 18: see(18, "hands()", x.hands(), y.hands()); break;
                case 19: judge(); break;
                case 20: s = number(9); w = someBells(s); see(20, "hear(" + s + "," + w + ")", x.hear(s, w), y.hear(s, w)); break;
                case 21: see(21, "unhear()", x.unhear(), y.unhear()); break;
                case 22: w = number(2); see(22, "fit(" + w + ")", x.fit(w), y.fit(w)); break;
                case 23: s = number(9); see(23, "likely(" + s + "," + u + ")", x.likely(s, u), y.likely(s, u)); break;
                case 24: see(24, "unwanted()", x.unwanted(), y.unwanted()); break;
                case 25: b = number(9); s = number(9); w = number(1); see(25, "sealed(" + b + "," + s + "," + w + ")", x.sealed(b, s, w), y.sealed(b, s, w)); break;
                case 26: long v = random.nextLong(); see(26, "seed(" + v + ")", x.seed(v), y.seed(v)); break;
                case 27: w = number(20); see(27, "day(" + w + ")", x.day(w), y.day(w)); break;
                case 28: w = number(1); see(28, "keep(" + w + ")", x.keep(w), y.keep(w)); break;
                case 29: w = number(1); see(29, "again(" + w + ")", x.again(w), y.again(w)); break;
                default: w = number(7); see(30, "count(" + w + ")", x.count(w), y.count(w));
            }
        }

        /** Mostly what rings now, so that some days fit. */
        private int someBells(int second) {
            int now = y.rings(second);
            return now >= 0 && random.nextInt(4) != 0 ? now : number((1 << y.count(1)) - 1);
        }

        private void judge() {
            int n = 1 + upTo(4);
            long row = 0;
            for (int i = 0; i < n; i++) {
                int b = upTo(Math.max(0, y.count(2) - 1));
                row = row * 100 + b * 10 + Math.floorMod(someSecond(b), 10);
            }
            if (random.nextInt(12) == 0) row = random.nextBoolean() ? random.nextLong() : row * 100;
            if (random.nextInt(12) == 0) n = number(5);
            see(19, "judge(" + n + "," + row + ")", x.judge(n, row), y.judge(n, row));
        }
    }
}
