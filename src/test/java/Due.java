/** Counts the answers of one test that are not the ones that are due, and ends it by them. */
final class Due {
    private int asked = 0;
    private int wrong = 0;

    void is(String call, long got, long due) {
        asked++;
        if (got == due) return;
        wrong++;
        System.out.println(call + " answered " + got + ", due is " + due);
    }

    void holds(String what, boolean so) {
        asked++;
        if (so) return;
        wrong++;
        System.out.println("not so: " + what);
    }

    boolean isWrong() {
        return wrong > 0;
    }

    /** Java ends with exit code 1 by what is thrown here; thrown, so that a test can be run inside another one. */
    void end() {
        System.out.println(asked + " asked, " + wrong + " wrong");
        if (wrong > 0 || asked == 0) throw new AssertionError("not all answers are as due");
    }
}
