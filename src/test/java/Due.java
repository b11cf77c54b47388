/** Counts and prints the answers that are not as due. */
final class Due {
    private int wrong = 0;
    private String promise = "";

    void about(String words) {
        promise = words;
    }

    void same(String call, long got, long want) {
        if (got != want) {
            wrong++;
            System.out.println(promise + ": " + call + " answered " + got + ", due is " + want);
        }
    }

    void yes(String call, boolean got) {
        same(call, got ? 1 : 0, 1);
    }

    void no(String call, boolean got) {
        same(call, got ? 1 : 0, 0);
    }

    void is(String call, boolean got, boolean want) {
        same(call, got ? 1 : 0, want ? 1 : 0);
    }

    void counted(RateChains x, int kind, int year, long above, long below) {
        fraction("counted(" + kind + ", " + year + ")",
                x.counted(kind, year, 0), x.counted(kind, year, 1), above, below);
    }

    void rate(RateChains x, int kind, int year, long above, long below) {
        fraction("rate(" + kind + ", " + year + ")",
                x.rate(kind, year, 0), x.rate(kind, year, 1), above, below);
    }

    void open(RateChains x, int yearA, int yearB, int k, long above, long below) {
        fraction("open(" + yearA + ", " + yearB + ", " + k + ")",
                x.open(yearA, yearB, k, 0), x.open(yearA, yearB, k, 1), above, below);
    }

    private void fraction(String call, long above, long below, long dueAbove, long dueBelow) {
        same(call + " above", above, dueAbove);
        same(call + " below", below, dueBelow);
    }

    /** Adds bytes to the text, all of which are to be taken. */
    void writes(RateChains x, String text) {
        for (int i = 0; i < text.length(); i++) {
            yes("unit(" + (int) text.charAt(i) + ")", x.unit(text.charAt(i)));
        }
    }

    /** The form is this one, and no byte longer. */
    void reads(RateChains x, String form) {
        for (int i = 0; i < form.length(); i++) {
            same("form(" + i + ")", x.form(i), form.charAt(i));
        }
        same("form(" + form.length() + ")", x.form(form.length()), -1);
    }

    boolean anyWrong() {
        return wrong > 0;
    }

    void end() {
        System.out.println(wrong == 0 ? "all answers are as due" : wrong + " answers are not as due");
        if (wrong != 0) {
            System.exit(1);
        }
    }
}
