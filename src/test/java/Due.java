/** Compares answers with those that are due, and ends the test with exit code 1 if one differs. */
final class Due {
    interface Call {
        void make();
    }

    static final Class<? extends Exception> ARGUMENT = IllegalArgumentException.class;
    static final Class<? extends Exception> STATE = IllegalStateException.class;
    static final Class<? extends Exception> INDEX = IndexOutOfBoundsException.class;

    private final String test;
    private int asked;
    private int wrong;

    Due(String test) {
        this.test = test;
    }

    void same(String call, long got, long want) {
        judge(got == want, call, String.valueOf(got), String.valueOf(want));
    }

    void same(String call, double got, double want) {
        judge(got == want, call, String.valueOf(got), String.valueOf(want));
    }

    void same(String call, String got, String want) {
        judge(got.equals(want), call, got, want);
    }

    /** All lines have to be the same; the first ones that are not are told. */
    void same(String call, String[] got, String[] want) {
        int lines = Math.max(got.length, want.length);
        int told = 0;
        for (int i = 0; i < lines && told < 3; i++) {
            String left = i < got.length ? got[i] : "nothing";
            String right = i < want.length ? want[i] : "nothing";
            if (!left.equals(right)) {
                told++;
                same(call, left, right);
            }
        }
        asked += told == 0 ? 1 : 0;
    }

    /** A call that throws has to throw just this class, and to change nothing. */
    void refused(String call, Class<? extends Exception> want, WishWell well, Call made) {
        long before = well.digest();
        String got = "nothing thrown";
        try {
            made.make();
        } catch (RuntimeException e) {
            got = e.getClass().getName();
        }
        same(call, got, want.getName());
        same(call + ", digest behind it", well.digest(), before);
    }

    void close() {
        System.out.println(test + ": " + asked + " answers, " + wrong + " wrong");
        if (asked == 0 || wrong > 0) {
            System.exit(1);
        }
    }

    private void judge(boolean right, String call, String got, String want) {
        asked++;
        if (!right) {
            wrong++;
            System.out.println(test + ": " + call + " answered " + got + ", due is " + want);
        }
    }
}
