import java.util.function.Consumer;
import java.util.function.Supplier;

/**
 * "A method that throws an exception changes nothing. If several exceptions apply, the one that is named
 * first is thrown": each call of the face with each argument just outside of what is taken, and far
 * outside, alone and together, on wells that are empty, full, poor and rich. Behind each refused call
 * everything that the well shows is compared with a well of which it was not asked.
 */
public final class RefusedCallsTest {
    private static final Due due = new Due("RefusedCallsTest");
    private static final int LEAST = Integer.MIN_VALUE;
    private static final int MOST = Integer.MAX_VALUE;

    private final String name;
    private final Supplier<WishWell> maker;
    private final int lands;
    private final int wishes;
    private final String[] seen;
    private final long later;

    private RefusedCallsTest(String name, Supplier<WishWell> maker) {
        this.name = name;
        this.maker = maker;
        WishWell untouched = maker.get();
        lands = untouched.count(1);
        wishes = untouched.count(2);
        seen = Seen.of(untouched);
        untouched.pass(9);
        later = untouched.digest();
    }

    public static void main(String[] args) {
        wellsAreAsNamed();
        on("empty well", WishWell::new);
        on("well of one land", () -> Wells.ofLand(50, 9));
        on("full well", Wells::full);
        on("poor well", Wells::poor);
        on("rich well", Wells::rich);
        due.close();
    }

    private static void wellsAreAsNamed() {
        WishWell full = Wells.full();
        due.same("lands of the full well", full.count(1), 6);
        due.same("wishes of the full well", full.count(2), 24);
        due.same("it has wishes of all fates", full.count(3) > 0 && full.count(4) > 0 ? 1 : 0, 1);
        for (int layer = 0; layer < 5; layer++) {
            int many = 0;
            for (int land = 0; land < 6; land++) {
                many += full.coins(layer, land);
            }
            due.same("it has coins in the layer " + layer, many > 0 ? 1 : 0, 1);
        }
        due.same("favour of the poor well", Wells.poor().count(5), 0);
        due.same("favour of the rich well", Wells.rich().count(5), 500);
        due.same("turn of the rich well", Wells.rich().count(6), 3);
    }

    private static void on(String name, Supplier<WishWell> maker) {
        RefusedCallsTest test = new RefusedCallsTest(name, maker);
        test.addLand();
        test.setTide();
        test.wish();
        test.withdraw();
        test.fish();
        test.audit();
        test.missing();
        test.land();
        test.coins();
        test.told();
        test.count();
        test.pass();
        test.next();
        test.waits();
        test.foresee();
        test.change();
    }

    private void refused(String call, Class<? extends Exception> want, Consumer<WishWell> made) {
        WishWell x = maker.get();
        String got = "nothing thrown";
        try {
            made.accept(x);
        } catch (RuntimeException e) {
            got = e.getClass().getName();
        }
        String told = name + ": " + call;
        due.same(told, got, want.getName());
        due.same(told + ", and behind it", Seen.of(x), seen);
        x.pass(9);
        due.same(told + ", and digest() 9 days behind it", x.digest(), later);
    }

    private static int[] outside(int least, int most) {
        return new int[] {least - 1, most + 1, LEAST, MOST};
    }

    private int[] noLands() {
        return outside(0, lands - 1);
    }

    private int[] noWishes() {
        return outside(0, wishes - 1);
    }

    /** IllegalArgumentException, then IllegalStateException. */
    private void addLand() {
        for (int value : outside(1, 50)) {
            refused("addLand(" + value + ", 1)", Due.ARGUMENT, x -> x.addLand(value, 1));
            refused("addLand(" + value + ", 9)", Due.ARGUMENT, x -> x.addLand(value, 9));
            refused("addLand(" + value + ", 10)", Due.ARGUMENT, x -> x.addLand(value, 10));
        }
        for (int weight : outside(1, 9)) {
            refused("addLand(1, " + weight + ")", Due.ARGUMENT, x -> x.addLand(1, weight));
            refused("addLand(50, " + weight + ")", Due.ARGUMENT, x -> x.addLand(50, weight));
        }
        if (lands == 6) {
            refused("addLand(1, 1), the 7th", Due.STATE, x -> x.addLand(1, 1));
            refused("addLand(50, 9), the 7th", Due.STATE, x -> x.addLand(50, 9));
        }
    }

    /** IndexOutOfBoundsException, then IllegalArgumentException. */
    private void setTide() {
        for (int weekday : outside(0, 6)) {
            refused("setTide(" + weekday + ", 0)", Due.INDEX, x -> x.setTide(weekday, 0));
            refused("setTide(" + weekday + ", 9)", Due.INDEX, x -> x.setTide(weekday, 9));
            refused("setTide(" + weekday + ", 10)", Due.INDEX, x -> x.setTide(weekday, 10));
            refused("setTide(" + weekday + ", -1)", Due.INDEX, x -> x.setTide(weekday, -1));
        }
        for (int many : outside(0, 9)) {
            refused("setTide(0, " + many + ")", Due.ARGUMENT, x -> x.setTide(0, many));
            refused("setTide(6, " + many + ")", Due.ARGUMENT, x -> x.setTide(6, many));
        }
    }

    /** IndexOutOfBoundsException, then IllegalArgumentException, then IllegalStateException. */
    private void wish() {
        for (int land : noLands()) {
            refused("wish(" + land + ", 0)", Due.INDEX, x -> x.wish(land, 0));
            refused("wish(" + land + ", 3)", Due.INDEX, x -> x.wish(land, 3));
            refused("wish(" + land + ", 4)", Due.INDEX, x -> x.wish(land, 4));
            refused("wish(" + land + ", -1)", Due.INDEX, x -> x.wish(land, -1));
        }
        if (lands == 0) {
            return;
        }
        int last = lands - 1;
        for (int kind : outside(0, 3)) {
            refused("wish(0, " + kind + ")", Due.ARGUMENT, x -> x.wish(0, kind));
            refused("wish(" + last + ", " + kind + ")", Due.ARGUMENT, x -> x.wish(last, kind));
        }
        if (wishes == 24) {
            refused("wish(0, 0), the 25th", Due.STATE, x -> x.wish(0, 0));
            refused("wish(" + last + ", 3), the 25th", Due.STATE, x -> x.wish(last, 3));
        }
    }

    /** IndexOutOfBoundsException, or IllegalStateException for each wish that does not wait. */
    private void withdraw() {
        for (int wish : noWishes()) {
            refused("withdraw(" + wish + ")", Due.INDEX, x -> x.withdraw(wish));
        }
        WishWell untouched = maker.get();
        for (int wish = 0; wish < wishes; wish++) {
            int number = wish;
            if (untouched.told(number, 3) != 0) {
                refused("withdraw(" + number + "), does not wait", Due.STATE, x -> x.withdraw(number));
            }
        }
    }

    /** IndexOutOfBoundsException, then IllegalArgumentException. */
    private void fish() {
        for (int layer : outside(0, 4)) {
            refused("fish(" + layer + ", 1)", Due.INDEX, x -> x.fish(layer, 1));
            refused("fish(" + layer + ", 20)", Due.INDEX, x -> x.fish(layer, 20));
            refused("fish(" + layer + ", 0)", Due.INDEX, x -> x.fish(layer, 0));
            refused("fish(" + layer + ", 21)", Due.INDEX, x -> x.fish(layer, 21));
        }
        for (int many : outside(1, 20)) {
            refused("fish(0, " + many + ")", Due.ARGUMENT, x -> x.fish(0, many));
            refused("fish(4, " + many + ")", Due.ARGUMENT, x -> x.fish(4, many));
        }
    }

    private void audit() {
        for (int layer : outside(0, 4)) {
            refused("audit(" + layer + ")", Due.INDEX, x -> x.audit(layer));
        }
    }

    private void missing() {
        for (int land : noLands()) {
            refused("missing(" + land + ")", Due.INDEX, x -> x.missing(land));
        }
    }

    private void land() {
        for (int land : noLands()) {
            refused("land(" + land + ", 0)", Due.INDEX, x -> x.land(land, 0));
            refused("land(" + land + ", 4)", Due.INDEX, x -> x.land(land, 4));
            refused("land(" + land + ", 5)", Due.INDEX, x -> x.land(land, 5));
        }
        for (int what : outside(0, 4)) {
            refused("land(0, " + what + ")", Due.INDEX, x -> x.land(0, what));
        }
    }

    private void coins() {
        for (int land : noLands()) {
            refused("coins(0, " + land + ")", Due.INDEX, x -> x.coins(0, land));
            refused("coins(4, " + land + ")", Due.INDEX, x -> x.coins(4, land));
            refused("coins(5, " + land + ")", Due.INDEX, x -> x.coins(5, land));
        }
        for (int layer : outside(0, 4)) {
            refused("coins(" + layer + ", 0)", Due.INDEX, x -> x.coins(layer, 0));
        }
    }

    private void told() {
        for (int wish : noWishes()) {
            refused("told(" + wish + ", 0)", Due.INDEX, x -> x.told(wish, 0));
            refused("told(" + wish + ", 4)", Due.INDEX, x -> x.told(wish, 4));
            refused("told(" + wish + ", -1)", Due.INDEX, x -> x.told(wish, -1));
        }
        for (int what : outside(0, 4)) {
            refused("told(0, " + what + ")", Due.INDEX, x -> x.told(0, what));
        }
    }

    private void count() {
        for (int what : outside(0, 10)) {
            refused("count(" + what + ")", Due.INDEX, x -> x.count(what));
        }
    }

    private void pass() {
        for (int days : outside(1, 100)) {
            refused("pass(" + days + ")", Due.ARGUMENT, x -> x.pass(days));
        }
    }

    private void next() {
        for (int kind : outside(0, 3)) {
            refused("next(" + kind + ")", Due.INDEX, x -> x.next(kind));
        }
    }

    private void waits() {
        for (int wish : noWishes()) {
            refused("waits(" + wish + ")", Due.INDEX, x -> x.waits(wish));
        }
    }

    /** IllegalArgumentException, then IndexOutOfBoundsException. */
    private void foresee() {
        for (int days : outside(1, 100)) {
            refused("foresee(" + days + ", 0)", Due.ARGUMENT, x -> x.foresee(days, 0));
            refused("foresee(" + days + ", 2)", Due.ARGUMENT, x -> x.foresee(days, 2));
            refused("foresee(" + days + ", 3)", Due.ARGUMENT, x -> x.foresee(days, 3));
            refused("foresee(" + days + ", -1)", Due.ARGUMENT, x -> x.foresee(days, -1));
        }
        for (int what : outside(0, 2)) {
            refused("foresee(1, " + what + ")", Due.INDEX, x -> x.foresee(1, what));
            refused("foresee(100, " + what + ")", Due.INDEX, x -> x.foresee(100, what));
        }
    }

    private void change() {
        for (int pence : outside(1, 300)) {
            refused("change(" + pence + ")", Due.ARGUMENT, x -> x.change(pence));
        }
    }
}
