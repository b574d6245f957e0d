/** Counts answers that are due; prints each one that is another, and stops where there are too many of those. */
final class Due {
    private final int mostWrong;
    private int right = 0;
    private int wrong = 0;
    private String part = "";

    Due() {
        this(500);
    }

    Due(int mostWrong) {
        this.mostWrong = mostWrong;
    }

    void part(String name) {
        part = name;
    }

    void is(String call, long got, long want) {
        if (got == want) {
            right++;
            return;
        }
        wrong++;
        System.out.println(part + ": " + call + " answered " + got + ", due is " + want);
        if (wrong > mostWrong) {
            throw new IllegalStateException("more than " + mostWrong + " answers are not as due");
        }
    }

    /** Ends the program: with 1 if one answer was another. */
    void end() {
        System.out.println(right + " answers as due, " + wrong + " not");
        System.exit(wrong == 0 && right > 0 ? 0 : 1);
    }
}
