/** Counts answers that are not the ones due, and tells each with the words of the document that it breaks. */
final class Check {
    static final int UNKNOWN = -1, OUTSIDE = -2, STATE = -3, FULL = -4, NONE = -9;
    static final int ALL_SECONDS = 1023;

    /** Far from every bound of the document; some of them would come back inside if their upper bits were lost. */
    private static final int[] FAR = {
        Integer.MIN_VALUE, Integer.MIN_VALUE + 1, Integer.MIN_VALUE + 2, -65536, -1000, -256, -255, -128, -32, -31, -16,
        -10, -9, -8, -5, -4, -3, -2, 1000, 4096, 65536, 65537, 65616, 1 << 24, 1 << 30, 1 << 30 | 1,
        Integer.MAX_VALUE - 1, Integer.MAX_VALUE};

    private String words = "";
    private int made = 0;
    private int wrong = 0;

    /** What follows is due by these words of the document. */
    void words(String told) {
        words = told;
    }

    void due(String call, long want, long got) {
        made++;
        if (got == want) return;
        wrong++;
        if (wrong <= 40) System.out.println(call + " answered " + got + ", due is " + want + " (" + words + ")");
    }

    /** Ends the program with 1, if an answer was not the one due. */
    void end() {
        System.out.println(wrong == 0 ? "all " + made + " answers are as due" : wrong + " answers are not as due");
        if (wrong != 0) System.exit(1);
    }

    /** One less than the least, one more than the most, and numbers that are far away. */
    static int[] beyond(int least, int most) {
        int[] numbers = new int[FAR.length + 2];
        int many = 0;
        numbers[many++] = least - 1;
        numbers[many++] = most + 1;
        for (int far : FAR) if (far < least || far > most) numbers[many++] = far;
        return java.util.Arrays.copyOf(numbers, many);
    }

    static void tell(BellSeconds x, String text) {
        for (int i = 0; i < text.length(); i++) x.write(text.charAt(i));
    }

    /** What tower() answered, once THE TEXT was the one told. */
    static int retell(BellSeconds x, String text) {
        x.wipe();
        tell(x, text);
        return x.tower();
    }

    /** A new object whose TOWER is the text. */
    static BellSeconds of(String text) {
        BellSeconds x = new BellSeconds();
        if (retell(x, text) < 0) throw new IllegalArgumentException("no tower: " + text);
        return x;
    }

    static int faultOf(String text) {
        BellSeconds x = new BellSeconds();
        tell(x, text);
        return x.fault();
    }
}
