/** Counts the answers of a test that are not as due. */
final class Due {
    private final String test;
    private String sentence = "";
    private int asked = 0;
    private int wrong = 0;

    Due(String test) {
        this.test = test;
    }

    /** What follows asks after this sentence of the document; it is told with each wrong answer. */
    void says(int promise, String words) {
        sentence = "promise " + promise + ", \"" + words + "\": ";
    }

    void is(String call, long got, long want) {
        asked++;
        if (got != want) {
            wrong++;
            if (wrong <= 40) {
                System.out.println(test + ": " + sentence + call + " answered " + got + ", due is " + want);
            }
        }
    }

    void is(String call, boolean got, boolean want) {
        is(call, got ? 1L : 0L, want ? 1L : 0L);
    }

    void end() {
        System.out.println(test + ": " + asked + " answers, " + wrong + " not as due");
        if (wrong != 0) {
            System.exit(1);
        }
    }

    static long name(String text) {
        long name = 0;
        for (int i = 0; i < text.length(); i++) {
            name = name << 8 | text.charAt(i);
        }
        return name;
    }

    /** No names: capitals, signs beside a and z, a gap, an end without letter, bytes over 127. */
    static long[] noNames() {
        return new long[] {65, 96, 123, 0x610061L, 0x6100L, 0x6161617BL, 0xE1L, -1, Long.MIN_VALUE,
            Long.MAX_VALUE, 1, 0x6161616161616180L, 0x8061616161616161L, 0x6100000000000000L};
    }
}
