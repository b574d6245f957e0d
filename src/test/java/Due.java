/** Counts answers that are due; prints each one that is another. */
final class Due {
    private int right = 0;
    private int wrong = 0;
    private String part = "";

    void part(String name) {
        part = name;
    }

    void is(String call, long got, long want) {
        if (got == want) {
            right++;
            return;
        }
        wrong++;
        System.out.println(part + ": " + call + " answered " + got + ", due is " + want);
    }

    /** Ends the program: with 1 if one answer was another. */
    void end() {
        System.out.println(right + " answers as due, " + wrong + " not");
        System.exit(wrong == 0 && right > 0 ? 0 : 1);
    }
}
