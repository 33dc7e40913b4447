/** Counts the answers that are not as due, and makes steppes for the tests. */
final class Due {
    private int answers;
    private int wrong;
    private int sentences;
    private String sentence = "";

    /** The document's words that the answers from here on are due by. */
    void sentence(String words) {
        sentences++;
        sentence = "\"" + words + "\": ";
    }

    void is(String call, long got, long want) {
        answers++;
        if (got != want) {
            wrong++;
            System.out.println(sentence + call + " answered " + got + ", due is " + want);
        }
    }

    /** A refusal or an answer of a call that names FAULTS: fault() must tell 0 behind it. */
    void plain(TaleBans x, String call, long got, long want) {
        is(call, got, want);
        is("fault() behind " + call, x.fault(), 0);
    }

    void faulted(TaleBans x, String call, long got, int fault) {
        is(call, got, -10 - fault);
        is("fault() behind " + call, x.fault(), fault);
    }

    void finish() {
        String by = sentences == 0 ? "" : " by " + sentences + " sentences";
        System.out.println(answers + " answers" + by + ", " + wrong + " not as due");
        if (wrong != 0) {
            System.exit(1);
        }
    }

    static void write(TaleBans x, int sheet, int lane, String text) {
        x.sheet(sheet, lane, text.length());
        for (int i = 0; i < text.length(); i++) {
            x.put(sheet, i, text.charAt(i));
        }
    }

    static void writeNumbers(TaleBans x, int sheet, int lane, int... numbers) {
        x.sheet(sheet, lane, numbers.length);
        for (int i = 0; i < numbers.length; i++) {
            x.put(sheet, i, numbers[i]);
        }
    }

    static int settle(TaleBans x, String text) {
        write(x, 3, 2, text);
        return x.steppe(3, 2, 0, text.length());
    }

    static TaleBans steppe(String text) {
        TaleBans x = new TaleBans();
        settle(x, text);
        return x;
    }
}
