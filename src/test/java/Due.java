/** Counts the answers that a test asked for, and prints those that are not due. */
final class Due {
    private final String test;
    private int asked;
    private int wrong;

    Due(String test) {
        this.test = test;
    }

    void is(String call, long got, long want) {
        asked++;
        if (got != want) {
            wrong++;
            System.out.println(test + ": " + call + " answered " + got + ", due is " + want);
        }
    }

    void holds(String what, boolean really) {
        is(what, really ? 1 : 0, 1);
    }

    boolean anyWrong() {
        return wrong > 0;
    }

    /** Ends the program: with 1 if an answer was wrong, or if none was asked for. */
    void end() {
        System.out.println(test + ": " + asked + " answers, " + wrong + " wrong");
        System.exit(wrong == 0 && asked > 0 ? 0 : 1);
    }

    /** Has a bureau hold just this text. */
    static void write(BorderStamps bureau, String text) {
        bureau.clearText();
        for (int i = 0; i < text.length(); i++) {
            bureau.type(text.charAt(i));
        }
    }

    static int perform(BorderStamps bureau, String text) {
        write(bureau, text);
        return bureau.perform();
    }
}
