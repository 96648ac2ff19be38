/** Promises 1 to 5: a new object, addLand, setTide, wish, withdraw. */
public final class LandsAndVisitorsTest {
    private static final Due due = new Due("LandsAndVisitorsTest");
    private static final int[] WRONG_LANDS = {-1, 2, 6, Integer.MIN_VALUE, Integer.MAX_VALUE};

    public static void main(String[] args) {
        newObject();
        objectsAreApart();
        addLandNumbers();
        addLandRefusals();
        setTideAnswers();
        setTideRefusals();
        wishThrowsCoin();
        wishFavour();
        wishFavourLimit();
        wishRefusals();
        withdrawTakesUppermost();
        withdrawFavour();
        withdrawRefusals();
        due.close();
    }

    private static void newObject() {
        WishWell x = new WishWell();
        for (int what = 0; what <= 10; what++) {
            due.same("new: count(" + what + ")", x.count(what), what == 5 ? 50 : 0);
        }
        for (int kind = 0; kind < 4; kind++) {
            due.same("new: next(" + kind + ")", x.next(kind), -1);
        }
        for (int weekday = 0; weekday < 7; weekday++) {
            due.same("new: setTide(" + weekday + ", 0)", x.setTide(weekday, 0), 0);
        }
        due.same("new: richest()", x.richest(), -1);
        due.same("new: change(1)", x.change(1), -1);
        due.same("new: mean()", x.mean(), 0.0);
        due.refused("new: missing(0)", Due.INDEX, x, () -> x.missing(0));
        due.refused("new: told(0, 0)", Due.INDEX, x, () -> x.told(0, 0));
    }

    private static void objectsAreApart() {
        WishWell a = new WishWell();
        WishWell b = new WishWell();
        long empty = b.digest();
        a.addLand(10, 5);
        a.wish(0, 1);
        a.setTide(0, 9);
        a.pass(3);
        due.same("another object's digest()", b.digest(), empty);
        due.same("an object made later", new WishWell().digest(), empty);
    }

    private static void addLandNumbers() {
        WishWell x = new WishWell();
        int[] values = {1, 50, 25, 7, 7, 49};
        int[] weights = {9, 1, 4, 3, 3, 8};
        for (int i = 0; i < 6; i++) {
            due.same("addLand number " + i, x.addLand(values[i], weights[i]), i);
            due.same("lands behind addLand", x.count(1), i + 1);
        }
        for (int i = 0; i < 6; i++) {
            due.same("land(" + i + ", 0)", x.land(i, 0), values[i]);
            due.same("land(" + i + ", 1)", x.land(i, 1), weights[i]);
            due.same("land(" + i + ", 2)", x.land(i, 2), 0);
        }
    }

    private static void addLandRefusals() {
        WishWell x = new WishWell();
        int[] wrongValues = {0, 51, -1, Integer.MIN_VALUE, Integer.MAX_VALUE};
        int[] wrongWeights = {0, 10, -1, Integer.MIN_VALUE, Integer.MAX_VALUE};
        for (int value : wrongValues) {
            due.refused("addLand(" + value + ", 5)", Due.ARGUMENT, x, () -> x.addLand(value, 5));
        }
        for (int weight : wrongWeights) {
            due.refused("addLand(5, " + weight + ")", Due.ARGUMENT, x, () -> x.addLand(5, weight));
        }
        for (int i = 0; i < 6; i++) {
            x.addLand(10, 5);
        }
        due.refused("addLand, the 7th", Due.STATE, x, () -> x.addLand(10, 5));
        due.refused("addLand(0, 5), the 7th", Due.ARGUMENT, x, () -> x.addLand(0, 5));
        due.refused("addLand(10, 10), the 7th", Due.ARGUMENT, x, () -> x.addLand(10, 10));
    }

    private static void setTideAnswers() {
        WishWell x = new WishWell();
        for (int weekday = 0; weekday < 7; weekday++) {
            due.same("setTide(" + weekday + "), first", x.setTide(weekday, weekday + 3), 0);
        }
        for (int weekday = 0; weekday < 7; weekday++) {
            due.same("setTide(" + weekday + "), second", x.setTide(weekday, 0), weekday + 3);
            due.same("setTide(" + weekday + "), third", x.setTide(weekday, 9), 0);
        }
        due.same("setTide brings no coins at once", x.count(7), 0);
    }

    private static void setTideRefusals() {
        WishWell x = new WishWell();
        x.setTide(0, 4);
        x.setTide(6, 5);
        int[] wrongDays = {-1, 7, Integer.MIN_VALUE, Integer.MAX_VALUE};
        int[] wrongTides = {-1, 10, Integer.MIN_VALUE, Integer.MAX_VALUE};
        for (int weekday : wrongDays) {
            due.refused("setTide(" + weekday + ", 5)", Due.INDEX, x, () -> x.setTide(weekday, 5));
            due.refused("setTide(" + weekday + ", 10)", Due.INDEX, x, () -> x.setTide(weekday, 10));
        }
        for (int many : wrongTides) {
            due.refused("setTide(0, " + many + ")", Due.ARGUMENT, x, () -> x.setTide(0, many));
        }
        due.same("setTide(0) behind refusals", x.setTide(0, 0), 4);
        due.same("setTide(6) behind refusals", x.setTide(6, 0), 5);
    }

    private static void wishThrowsCoin() {
        WishWell x = new WishWell();
        x.addLand(10, 5);
        x.addLand(20, 2);
        due.same("wish(1, 3)", x.wish(1, 3), 0);
        x.pass(2);
        due.same("wish(0, 2)", x.wish(0, 2), 1);
        due.same("wish(1, 0)", x.wish(1, 0), 2);
        due.same("coins(0, 0)", x.coins(0, 0), 1);
        due.same("coins(0, 1)", x.coins(0, 1), 2);
        due.same("land(1, 2)", x.land(1, 2), 2);
        due.same("land(0, 2)", x.land(0, 2), 1);
        due.same("count(2)", x.count(2), 3);
        due.same("count(3)", x.count(3), 3);
        int[][] want = {{3, 1, 0, 0, -1}, {2, 0, 2, 0, -1}, {0, 1, 2, 0, -1}};
        for (int wish = 0; wish < 3; wish++) {
            for (int what = 0; what < 5; what++) {
                due.same("told(" + wish + ", " + what + ")", x.told(wish, what), want[wish][what]);
            }
        }
    }

    private static void wishFavour() {
        int[] values = {1, 9, 10, 19, 20, 50};
        int[] gains = {0, 0, 1, 1, 2, 5};
        WishWell x = new WishWell();
        int favour = 50;
        for (int i = 0; i < 6; i++) {
            x.addLand(values[i], 1);
            x.wish(i, 0);
            favour += gains[i];
            due.same("favour behind a coin of " + values[i], x.count(5), favour);
        }
    }

    private static void wishFavourLimit() {
        WishWell x = new WishWell();
        x.addLand(50, 1);
        x.addLand(10, 1);
        x.wish(1, 3);
        x.withdraw(0);
        x.wish(1, 3);
        x.withdraw(1);
        x.pass(100);
        x.pass(100);
        x.pass(27);
        due.same("favour below the limit", x.count(5), 496);
        x.wish(1, 0);
        due.same("favour, 1 more", x.count(5), 497);
        x.wish(0, 0);
        due.same("favour at the limit", x.count(5), 500);
        x.wish(0, 0);
        due.same("favour beyond the limit", x.count(5), 500);
    }

    private static void wishRefusals() {
        WishWell x = new WishWell();
        due.refused("wish without lands", Due.INDEX, x, () -> x.wish(0, 0));
        x.addLand(10, 5);
        x.addLand(20, 5);
        for (int land : WRONG_LANDS) {
            due.refused("wish(" + land + ", 0)", Due.INDEX, x, () -> x.wish(land, 0));
            due.refused("wish(" + land + ", 4)", Due.INDEX, x, () -> x.wish(land, 4));
        }
        int[] wrongKinds = {-1, 4, Integer.MIN_VALUE, Integer.MAX_VALUE};
        for (int kind : wrongKinds) {
            due.refused("wish(1, " + kind + ")", Due.ARGUMENT, x, () -> x.wish(1, kind));
        }
        for (int i = 0; i < 24; i++) {
            due.same("wish, one of 24", x.wish(1, i % 4), i);
        }
        due.refused("wish, the 25th", Due.STATE, x, () -> x.wish(1, 0));
        due.refused("wish(2, 0), the 25th", Due.INDEX, x, () -> x.wish(2, 0));
        due.refused("wish(1, 4), the 25th", Due.ARGUMENT, x, () -> x.wish(1, 4));
        x.withdraw(3);
        due.refused("wish behind withdraw, the 25th", Due.STATE, x, () -> x.wish(1, 0));
    }

    private static void withdrawTakesUppermost() {
        WishWell x = new WishWell();
        x.addLand(9, 4);
        x.addLand(8, 4);
        for (int i = 0; i < 4; i++) {
            x.wish(0, 3);
        }
        x.wish(1, 3);
        x.pass(1);
        due.same("coins(0, 0)", x.coins(0, 0), 2);
        due.same("coins(1, 0)", x.coins(1, 0), 2);
        due.same("withdraw(2)", x.withdraw(2), 0);
        due.same("withdraw(0)", x.withdraw(0), 0);
        due.same("coins(0, 0) behind them", x.coins(0, 0), 0);
        due.same("withdraw(1)", x.withdraw(1), 1);
        due.same("coins(1, 0) behind it", x.coins(1, 0), 1);
        due.same("missing(0) less those taken back", x.missing(0), 0);
        x.audit(1);
        due.same("withdraw(3) without a coin", x.withdraw(3), -1);
        due.same("missing(0) behind it", x.missing(0), 0);
        due.same("another land's coin stays", x.coins(0, 1), 1);
        due.same("land(0, 2)", x.land(0, 2), 4);
        due.same("land(0, 3)", x.land(0, 3), 0);
        due.same("land(0, 4)", x.land(0, 4), 1);
        due.same("told(3, 3)", x.told(3, 3), 2);
        due.same("told(3, 4)", x.told(3, 4), -1);
        due.same("count(3)", x.count(3), 1);
        due.same("favour", x.count(5), 52 - 4 * 5);
    }

    private static void withdrawFavour() {
        WishWell x = new WishWell();
        x.addLand(10, 1);
        x.addLand(9, 1);
        x.wish(0, 0);
        for (int i = 1; i < 13; i++) {
            x.wish(1, 0);
        }
        int favour = 51;
        for (int i = 1; i < 13; i++) {
            x.withdraw(i);
            favour = Math.max(0, favour - 5);
            due.same("favour behind withdraw(" + i + ")", x.count(5), favour);
        }
        due.same("favour never below 0", x.count(5), 0);
    }

    private static void withdrawRefusals() {
        WishWell x = new WishWell();
        due.refused("withdraw(0) without wishes", Due.INDEX, x, () -> x.withdraw(0));
        x.addLand(10, 5);
        x.wish(0, 0);
        x.wish(0, 1);
        for (int wish : WRONG_LANDS) {
            due.refused("withdraw(" + wish + ")", Due.INDEX, x, () -> x.withdraw(wish));
        }
        x.withdraw(1);
        due.refused("withdraw, one withdrawn", Due.STATE, x, () -> x.withdraw(1));
        due.same("pass(1)", x.pass(1), 1);
        due.refused("withdraw, one granted", Due.STATE, x, () -> x.withdraw(0));
    }
}
