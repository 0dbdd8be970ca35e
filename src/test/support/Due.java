/** What a test holds against the answers: it prints each that is not due, and ends with 1 if there was one. */
final class Due {
    private final String test;
    private String about = "";
    private int asked;
    private int wrong;

    Due(String test) {
        this.test = test;
    }

    /** What the answers that come now are about; it is printed ahead of each that is not due. */
    void about(String what) {
        about = what;
    }

    int asked() {
        return asked;
    }

    void is(String call, long got, long want) {
        asked++;
        if (got != want) {
            wrong++;
            if (wrong <= 40) {
                System.out.println(test + ": " + about + call + " answered " + got + ", due is " + want);
            }
        }
    }

    void holds(String claim, boolean held) {
        is(claim, held ? 1 : 0, 1);
    }

    void end() {
        System.out.println(test + ": " + asked + " asked, " + wrong + " not as due");
        if (wrong != 0 || asked == 0) {
            System.exit(1);
        }
    }
}
