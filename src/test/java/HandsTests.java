import java.util.ArrayList;
import java.util.List;
import java.util.Random;

/**
 * HANDS of many days, found another way: who can ring a stroke and then another one can skip what lies between them (a
 * walk past a bell is no shorter), so the fewest ringers are as many as the most strokes of which no ringer can ring two.
 */
public final class HandsTests {
    private static final int TOWERS = 4000, DAYS = 12;
    /** All of it takes a second or two; a search that goes the same ways again and again would not end at all. */
    private static final long MOST_MILLISECONDS = 120_000;
    private static final Check CHECK = new Check();
    private static final Random RANDOM = new Random(20);

    private record Stroke(int bell, int begin, int end) {
        boolean isAheadOf(Stroke other) {
            return end + Math.abs(bell - other.bell) <= other.begin;
        }

        boolean isApartFrom(Stroke other) {
            return !isAheadOf(other) && !other.isAheadOf(this);
        }
    }

    public static void main(String[] args) {
        endInTime();
        CHECK.words("HANDS: the fewest ringers that ring all strokes of PEALS that are LET");
        int[] met = new int[4];
        for (int k = 0; k < TOWERS; k++) days(tower(), met);
        CHECK.words("days of one, two and three hands were looked at");
        for (int hands = 1; hands < met.length; hands++) CHECK.due(hands + " hands", 1, met[hands] > 100 ? 1 : 0);
        CHECK.end();
    }

    private static void endInTime() {
        Thread watch = new Thread(() -> {
            try {
                Thread.sleep(MOST_MILLISECONDS);
                System.out.println("hands() of some day did not end in time");
            } catch (InterruptedException e) {
                System.out.println("the watch was stopped");
            }
            Runtime.getRuntime().halt(1);
        });
        watch.setDaemon(true);
        watch.start();
    }

    /** Short bells that ring on at once, so that many strokes have room. */
    private static String tower() {
        StringBuilder text = new StringBuilder("T");
        for (int bell = 0; bell < 3; bell++) text.append('B').append(1 + RANDOM.nextInt(5) / 4).append(RANDOM.nextInt(4) / 3);
        for (int bidder = 0; bidder < 5; bidder++) {
            text.append('P').append(RANDOM.nextInt(3)).append(1 + RANDOM.nextInt(3)).append(RANDOM.nextInt(3)).append("091");
        }
        return text.toString();
    }

    private static void days(String text, int[] met) {
        BellSeconds x = Check.of(text);
        for (int day = 0; day < DAYS; day++) {
            List<Stroke> strokes = new ArrayList<>();
            for (int k = 0; k < 12; k++) {
                int bidder = RANDOM.nextInt(5), second = RANDOM.nextInt(10);
                if (x.let(bidder, second) > 0) strokes.addAll(strokes(text, bidder, second));
            }
            int most = mostApart(strokes, 0, new ArrayList<>());
            CHECK.due(text + " who is let: " + x.count(3) + ", hands()", most, x.hands());
            if (most < met.length) met[most]++;
            for (int bidder = 0; bidder < 5; bidder++) x.revoke(bidder);
        }
    }

    private static List<Stroke> strokes(String text, int bidder, int second) {
        String peal = text.substring(10 + 7 * bidder);
        int bell = peal.charAt(1) - '0', many = peal.charAt(2) - '0', between = peal.charAt(3) - '0';
        int ring = text.charAt(2 + 3 * bell) - '0';
        List<Stroke> strokes = new ArrayList<>();
        for (int k = 0, begin = second; k < many; k++, begin += ring + between) {
            strokes.add(new Stroke(bell, begin, begin + ring));
        }
        return strokes;
    }

    private static int mostApart(List<Stroke> strokes, int next, List<Stroke> chosen) {
        if (next == strokes.size()) return chosen.size();
        int most = mostApart(strokes, next + 1, chosen);
        for (Stroke other : chosen) if (!strokes.get(next).isApartFrom(other)) return most;
        chosen.add(strokes.get(next));
        most = Math.max(most, mostApart(strokes, next + 1, chosen));
        chosen.remove(chosen.size() - 1);
        return most;
    }
}
