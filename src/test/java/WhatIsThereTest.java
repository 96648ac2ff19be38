/** Promises 9 to 12: land, coins, told, count. */
public final class WhatIsThereTest {
    private static final Due due = new Due("WhatIsThereTest");

    public static void main(String[] args) {
        WishWell x = busyWell();
        landFigures(x);
        coinFigures(x);
        toldFigures(x);
        countFigures(x);
        refusals(x);
        askingChangesNothing(x);
        due.close();
    }

    /**
     * Two lands and seven coins; one day on which the wish 3 (kind 0) is granted, four coins
     * sink and one visitor comes; then one coin is fished, a layer audited, a wish withdrawn,
     * and one more coin thrown.
     */
    private static WishWell busyWell() {
        WishWell x = new WishWell();
        x.addLand(6, 4);
        x.addLand(30, 3);
        x.setTide(0, 1);
        x.wish(0, 2);
        x.wish(0, 2);
        x.wish(0, 1);
        x.wish(1, 0);
        x.wish(1, 3);
        x.wish(1, 3);
        x.wish(1, 3);
        x.pass(1);
        x.fish(0, 1);
        x.audit(1);
        x.withdraw(1);
        x.wish(0, 1);
        return x;
    }

    private static void landFigures(WishWell x) {
        // 4 of land 0 (a visitor's too) and 4 of land 1; 2 and 1 of them sank and were audited.
        int[][] want = {{6, 4, 5, 2, 2}, {30, 3, 4, 2, 1}};
        for (int land = 0; land < 2; land++) {
            for (int what = 0; what < 5; what++) {
                due.same("land(" + land + ", " + what + ")", x.land(land, what), want[land][what]);
            }
        }
    }

    private static void coinFigures(WishWell x) {
        for (int layer = 0; layer < 5; layer++) {
            due.same("coins(" + layer + ", 0)", x.coins(layer, 0), layer == 0 ? 2 : 0);
            due.same("coins(" + layer + ", 1)", x.coins(layer, 1), layer == 0 ? 2 : 0);
        }
        WishWell y = new WishWell();
        y.addLand(1, 1);
        y.addLand(1, 9);
        for (int i = 0; i < 16; i++) {
            y.wish(1, 0);
        }
        y.wish(0, 0);
        y.pass(4);
        int[] heavy = {1, 4, 6, 4, 1};
        for (int layer = 0; layer < 5; layer++) {
            due.same("deep coins(" + layer + ", 1)", y.coins(layer, 1), heavy[layer]);
            due.same("deep coins(" + layer + ", 0)", y.coins(layer, 0), layer == 0 ? 1 : 0);
        }
    }

    private static void toldFigures(WishWell x) {
        int[][] want = {
            {2, 0, 0, 0, -1}, {2, 0, 0, 2, -1}, {1, 0, 0, 0, -1}, {0, 1, 0, 1, 0},
            {3, 1, 0, 0, -1}, {3, 1, 0, 0, -1}, {3, 1, 0, 0, -1}, {1, 0, 1, 0, -1},
        };
        for (int wish = 0; wish < want.length; wish++) {
            for (int what = 0; what < 5; what++) {
                due.same("told(" + wish + ", " + what + ")", x.told(wish, what), want[wish][what]);
            }
        }
    }

    private static void countFigures(WishWell x) {
        // The favour: 50 + 4 * 3 (coins of 30) - 40 (granted) - 5 (withdrawn).
        int[] want = {1, 2, 8, 6, 1, 17, 1, 4, 2 * 6 + 2 * 30, 2 * 6 + 30, 30};
        for (int what = 0; what <= 10; what++) {
            due.same("count(" + what + ")", x.count(what), want[what]);
        }
    }

    private static void refusals(WishWell x) {
        int[] noLands = {-1, 2, 6, Integer.MIN_VALUE, Integer.MAX_VALUE};
        int[] noFigures = {-1, 5, Integer.MIN_VALUE, Integer.MAX_VALUE};
        int[] noWishes = {-1, 8, 24, Integer.MIN_VALUE, Integer.MAX_VALUE};
        for (int land : noLands) {
            due.refused("land(" + land + ", 0)", Due.INDEX, x, () -> x.land(land, 0));
            due.refused("coins(0, " + land + ")", Due.INDEX, x, () -> x.coins(0, land));
        }
        for (int what : noFigures) {
            due.refused("land(1, " + what + ")", Due.INDEX, x, () -> x.land(1, what));
            due.refused("told(1, " + what + ")", Due.INDEX, x, () -> x.told(1, what));
            due.refused("coins(" + what + ", 1)", Due.INDEX, x, () -> x.coins(what, 1));
        }
        for (int wish : noWishes) {
            due.refused("told(" + wish + ", 0)", Due.INDEX, x, () -> x.told(wish, 0));
        }
        due.refused("count(-1)", Due.INDEX, x, () -> x.count(-1));
        due.refused("count(11)", Due.INDEX, x, () -> x.count(11));
        due.refused("count(least)", Due.INDEX, x, () -> x.count(Integer.MIN_VALUE));
        due.refused("count(greatest)", Due.INDEX, x, () -> x.count(Integer.MAX_VALUE));
    }

    private static void askingChangesNothing(WishWell x) {
        long before = x.digest();
        x.land(1, 3);
        x.coins(2, 1);
        x.told(2, 2);
        x.count(8);
        due.same("digest() behind questions", x.digest(), before);
    }
}
