/** Promises 9 to 12: each boundary, on both sides. */
public final class EdgesOfWhatIsThereTest {
    private static final Due due = new Due("EdgesOfWhatIsThereTest");

    public static void main(String[] args) {
        firstAndLastLandAreTold();
        landFiguresFrom0To4();
        coinsOfEachLayer();
        coinsOfFirstAndLastLand();
        firstAndLastWishAreTold();
        toldFiguresOfEachFate();
        grantDayIs0OnTheDay0();
        thrownDayIsTheDayOfTheCall();
        countFiguresFrom0To10();
        countOfFates();
        askingChangesNothing("empty", new WishWell(), new WishWell());
        askingChangesNothing("full", Wells.full(), Wells.full());
        askingChangesNothing("poor", Wells.poor(), Wells.poor());
        askingChangesNothing("rich", Wells.rich(), Wells.rich());
        due.close();
    }

    /** "IndexOutOfBoundsException if there is no such land": with 0, 1 and 6 lands. */
    private static void firstAndLastLandAreTold() {
        WishWell x = new WishWell();
        for (int lands = 0; lands <= 6; lands++) {
            int beyond = lands;
            due.refused("land(" + lands + ", 0)", Due.INDEX, x, () -> x.land(beyond, 0));
            due.refused("coins(0, " + lands + ")", Due.INDEX, x, () -> x.coins(0, beyond));
            due.refused("missing(" + lands + ")", Due.INDEX, x, () -> x.missing(beyond));
            if (lands < 6) {
                x.addLand(40 + lands, 1 + lands);
                due.same("land(" + lands + ", 0)", x.land(lands, 0), 40 + lands);
                due.same("land(" + lands + ", 1)", x.land(lands, 1), 1 + lands);
                due.same("coins(0, " + lands + ")", x.coins(0, lands), 0);
                due.same("missing(" + lands + ")", x.missing(lands), 0);
            }
        }
        due.same("land(0, 0), with 6 lands", x.land(0, 0), 40);
    }

    /** "what: 0 the value of its coin, 1 the weight, 2 .. in all, 3 .. in the well, 4 .. audited in all". */
    private static void landFiguresFrom0To4() {
        WishWell x = Wells.ofLand(30, 6);
        Wells.wishes(x, 15, 0, 3);
        x.pass(2);
        x.fish(0, 1);
        x.withdraw(0);
        x.audit(1);
        // 15; 8 and 7; 4, 8 and 3; 1 fished, 1 taken back, and 8 audited.
        int[] want = {30, 6, 15, 5, 8};
        for (int what = 0; what <= 4; what++) {
            due.same("land(0, " + what + ")", x.land(0, what), want[what]);
        }
        due.refused("land(0, -1)", Due.INDEX, x, () -> x.land(0, -1));
        due.refused("land(0, 5)", Due.INDEX, x, () -> x.land(0, 5));
    }

    /** "layer is not 0 to 4". */
    private static void coinsOfEachLayer() {
        WishWell x = Wells.ofLand(1, 9);
        Wells.wishes(x, 16, 0, 3);
        x.pass(4);
        int[] lying = {1, 4, 6, 4, 1};
        for (int layer = 0; layer <= 4; layer++) {
            due.same("coins(" + layer + ", 0)", x.coins(layer, 0), lying[layer]);
        }
        due.refused("coins(-1, 0)", Due.INDEX, x, () -> x.coins(-1, 0));
        due.refused("coins(5, 0)", Due.INDEX, x, () -> x.coins(5, 0));
    }

    private static void coinsOfFirstAndLastLand() {
        WishWell x = new WishWell();
        for (int land = 0; land < 6; land++) {
            x.addLand(1, 9);
            Wells.wishes(x, land == 0 ? 1 : land == 5 ? 2 : 0, land, 3);
        }
        x.pass(1);
        for (int land = 0; land < 6; land++) {
            due.same("coins(0, " + land + ")", x.coins(0, land), land == 0 || land == 5 ? 1 : 0);
            due.same("coins(1, " + land + ")", x.coins(1, land), land == 5 ? 1 : 0);
        }
    }

    /** "IndexOutOfBoundsException if there is no such wish": with 0, 1 and 24 wishes. */
    private static void firstAndLastWishAreTold() {
        WishWell x = Wells.ofLand(1, 1);
        for (int wishes = 0; wishes <= 24; wishes++) {
            int beyond = wishes;
            due.refused("told(" + wishes + ", 0)", Due.INDEX, x, () -> x.told(beyond, 0));
            due.refused("waits(" + wishes + ")", Due.INDEX, x, () -> x.waits(beyond));
            if (wishes < 24) {
                x.wish(0, wishes % 4);
                due.same("told(" + wishes + ", 0)", x.told(wishes, 0), wishes % 4);
            }
        }
        due.same("told(0, 0), with 24 wishes", x.told(0, 0), 0);
        due.refused("told(0, -1)", Due.INDEX, x, () -> x.told(0, -1));
        due.refused("told(0, 5)", Due.INDEX, x, () -> x.told(0, 5));
        due.refused("told(23, 5)", Due.INDEX, x, () -> x.told(23, 5));
    }

    /** "3 0 if it waits, 1 if it is granted, 2 if it is withdrawn, 4 the day on which it was granted, -1 otherwise". */
    private static void toldFiguresOfEachFate() {
        WishWell x = Wells.ofLand(1, 1);
        x.addLand(2, 1);
        x.pass(5);
        x.wish(1, 3);
        x.wish(0, 1);
        x.wish(1, 2);
        x.withdraw(2);
        x.pass(1);
        int[][] want = {{3, 1, 5, 0, -1}, {1, 0, 5, 1, 5}, {2, 1, 5, 2, -1}};
        for (int wish = 0; wish < 3; wish++) {
            for (int what = 0; what <= 4; what++) {
                due.same("told(" + wish + ", " + what + ")", x.told(wish, what), want[wish][what]);
            }
        }
        x.pass(2);
        due.same("told(0, 3), granted", x.told(0, 3), 1);
        due.same("told(0, 4), granted", x.told(0, 4), 7);
        due.same("told(0, 2), as before", x.told(0, 2), 5);
        due.same("told(1, 4), as before", x.told(1, 4), 5);
        due.same("told(2, 4), as before", x.told(2, 4), -1);
    }

    private static void grantDayIs0OnTheDay0() {
        WishWell x = Wells.ofLand(1, 1);
        x.wish(0, 0);
        due.same("told(0, 4), it waits", x.told(0, 4), -1);
        x.pass(1);
        due.same("told(0, 4), granted on the day 0", x.told(0, 4), 0);
    }

    private static void thrownDayIsTheDayOfTheCall() {
        WishWell x = Wells.ofLand(1, 1);
        int[] days = {0, 1, 6, 7, 107};
        for (int wish = 0; wish < days.length; wish++) {
            int left = days[wish] - x.count(0);
            if (left > 0) {
                x.pass(left);
            }
            x.wish(0, 0);
            due.same("told(" + wish + ", 2)", x.told(wish, 2), days[wish]);
        }
    }

    private static void countFiguresFrom0To10() {
        WishWell x = Wells.ofLand(20, 9);
        x.addLand(3, 1);
        Wells.wishes(x, 4, 0, 0);
        Wells.wishes(x, 5, 1, 1);
        x.withdraw(8);
        x.pass(1);
        x.fish(0, 1);
        x.audit(1);
        // Favour: 50 + 4 * 2 - 5 - 30. Coins: 4 of 20, of which two sink; 5 of 3 less one taken back, of which one sinks.
        int[] want = {1, 2, 9, 7, 1, 23, 1, 4, 20 + 3 * 3, 2 * 20 + 3, 20};
        for (int what = 0; what <= 10; what++) {
            due.same("count(" + what + ")", x.count(what), want[what]);
        }
        due.refused("count(-1)", Due.INDEX, x, () -> x.count(-1));
        due.refused("count(11)", Due.INDEX, x, () -> x.count(11));
    }

    /** "3 those that wait, 4 those that are granted": those that are withdrawn are neither. */
    private static void countOfFates() {
        WishWell x = Wells.ofLand(1, 1);
        due.same("count(3), no wish", x.count(3), 0);
        x.wish(0, 0);
        due.same("count(3), one waits", x.count(3), 1);
        due.same("count(4), one waits", x.count(4), 0);
        x.pass(1);
        due.same("count(3), one granted", x.count(3), 0);
        due.same("count(4), one granted", x.count(4), 1);
        x.withdraw(x.wish(0, 0));
        due.same("count(3), one withdrawn", x.count(3), 0);
        due.same("count(4), one withdrawn", x.count(4), 1);
        due.same("count(2), both are wishes", x.count(2), 2);
    }

    /** All questions with their first and last arguments; behind them the well is as one that was not asked. */
    private static void askingChangesNothing(String name, WishWell x, WishWell unasked) {
        long before = x.digest();
        askOfLandsAndWishes(x);
        due.same(name + ": digest() behind questions", x.digest(), before);
        askWhatWouldBe(x);
        due.same(name + ": digest() behind questions of what would be", x.digest(), before);
        due.same(name + ": what is seen", Seen.of(x), Seen.of(unasked));
        x.pass(10);
        unasked.pass(10);
        due.same(name + ": digest() 10 days later", x.digest(), unasked.digest());
    }

    private static void askOfLandsAndWishes(WishWell x) {
        int lands = x.count(1);
        int wishes = x.count(2);
        for (int what = 0; what <= 4; what++) {
            if (lands > 0) {
                x.land(lands - 1, what);
                x.coins(what, 0);
                x.missing(lands - 1);
            }
            if (wishes > 0) {
                x.told(0, what);
                x.told(wishes - 1, what);
            }
        }
    }

    private static void askWhatWouldBe(WishWell x) {
        for (int wish = 0; wish < x.count(2); wish++) {
            x.waits(wish);
        }
        for (int kind = 0; kind <= 3; kind++) {
            x.next(kind);
        }
        for (int what = 0; what <= 2; what++) {
            x.foresee(1, what);
            x.foresee(100, what);
        }
        x.change(1);
        x.change(300);
        x.richest();
        x.mean();
    }
}
