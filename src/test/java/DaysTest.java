/** Promise 13: pass, with each step of a day. */
public final class DaysTest {
    private static final Due due = new Due("DaysTest");

    public static void main(String[] args) {
        passRefusals();
        daysAndTurns();
        visitorsByWeekday();
        visitorsWithoutLands();
        visitorsFavour();
        heavyCoinsSink();
        lightCoinsSink();
        visitorsCoinsSinkAtOnce();
        lowestLayerKeeps();
        grantNeedsFavour();
        grantWithExactFavour();
        noGrantWithOneLess();
        grantAfterVisitors();
        grantGreatestOnly();
        grantOneADay();
        idleFavourLimit();
        due.close();
    }

    private static void layersAre(String when, WishWell x, int land, int[] want) {
        for (int layer = 0; layer < 5; layer++) {
            due.same(when + ": coins(" + layer + ", " + land + ")", x.coins(layer, land), want[layer]);
        }
    }

    private static void passRefusals() {
        WishWell x = new WishWell();
        x.addLand(10, 5);
        x.setTide(0, 3);
        x.wish(0, 0);
        int[] wrong = {0, 101, -1, Integer.MIN_VALUE, Integer.MAX_VALUE};
        for (int days : wrong) {
            due.refused("pass(" + days + ")", Due.ARGUMENT, x, () -> x.pass(days));
        }
    }

    private static void daysAndTurns() {
        WishWell x = new WishWell();
        for (int day = 1; day <= 9; day++) {
            due.same("pass(1), nothing waits", x.pass(1), 0);
            due.same("day", x.count(0), day);
            due.same("turn", x.count(6), day % 4);
            due.same("favour, 2 more", x.count(5), 50 + 2 * day);
        }
        x.pass(100);
        due.same("day behind pass(100)", x.count(0), 109);
        due.same("turn behind pass(100)", x.count(6), 1);
    }

    private static void visitorsByWeekday() {
        WishWell x = new WishWell();
        x.addLand(1, 1);
        x.addLand(1, 1);
        x.addLand(1, 1);
        x.setTide(0, 4);
        x.setTide(2, 2);
        x.setTide(6, 1);
        // Day 0: lands 0, 1, 2, 0; day 2: 2, 0; day 6: 0; day 7: 1, 2, 0, 1; day 9: 0, 1.
        int[][] thrown = {{2, 1, 1}, {2, 1, 1}, {3, 1, 2}, {3, 1, 2}, {3, 1, 2}, {3, 1, 2},
            {4, 1, 2}, {5, 3, 3}, {5, 3, 3}, {6, 4, 3}};
        for (int day = 0; day < thrown.length; day++) {
            x.pass(1);
            for (int land = 0; land < 3; land++) {
                due.same("day " + day + ": land(" + land + ", 2)", x.land(land, 2), thrown[day][land]);
            }
        }
        due.same("no wishes of visitors", x.count(2), 0);
        due.same("all coins lie in the well", x.count(7), 13);
    }

    private static void visitorsWithoutLands() {
        WishWell x = new WishWell();
        for (int weekday = 0; weekday < 7; weekday++) {
            x.setTide(weekday, 9);
        }
        due.same("pass(8) without lands", x.pass(8), 0);
        due.same("coins", x.count(7), 0);
        due.same("favour", x.count(5), 66);
    }

    private static void visitorsFavour() {
        WishWell x = new WishWell();
        x.addLand(19, 1);
        x.addLand(50, 1);
        x.setTide(0, 9);
        x.pass(1);
        due.same("favour", x.count(5), 50 + 5 * 1 + 4 * 5 + 2);
        x.setTide(1, 9);
        x.setTide(2, 9);
        for (int i = 0; i < 5; i++) {
            x.pass(100);
        }
        due.same("favour at the limit", x.count(5), 500);
        // 501 days with 72 of each of the weekdays 0, 1 and 2.
        due.same("nobody on the other weekdays", x.land(0, 2) + x.land(1, 2), 9 * 3 * 72);
    }

    private static void heavyCoinsSink() {
        WishWell x = new WishWell();
        x.addLand(1, 4);
        for (int i = 0; i < 16; i++) {
            x.wish(0, 3);
        }
        x.pass(1);
        layersAre("heavy, day 1", x, 0, new int[] {8, 8, 0, 0, 0});
        x.pass(1);
        layersAre("heavy, day 2", x, 0, new int[] {4, 8, 4, 0, 0});
        x.pass(1);
        layersAre("heavy, day 3", x, 0, new int[] {2, 6, 6, 2, 0});
        x.wish(0, 3);
        x.pass(1);
        layersAre("heavy, day 4, an odd number", x, 0, new int[] {2, 4, 6, 4, 1});
    }

    private static void lightCoinsSink() {
        WishWell x = new WishWell();
        x.addLand(1, 3);
        x.addLand(1, 9);
        for (int i = 0; i < 19; i++) {
            x.wish(0, 3);
        }
        x.wish(1, 3);
        x.pass(1);
        layersAre("light, day 1", x, 0, new int[] {15, 4, 0, 0, 0});
        layersAre("a single coin does not sink", x, 1, new int[] {1, 0, 0, 0, 0});
        x.pass(1);
        layersAre("light, day 2", x, 0, new int[] {12, 6, 1, 0, 0});
        x.pass(1);
        layersAre("light, day 3", x, 0, new int[] {9, 8, 2, 0, 0});
    }

    private static void visitorsCoinsSinkAtOnce() {
        WishWell x = new WishWell();
        x.addLand(1, 5);
        x.setTide(0, 2);
        x.pass(1);
        layersAre("visitors before sinking", x, 0, new int[] {1, 1, 0, 0, 0});
    }

    private static void lowestLayerKeeps() {
        WishWell x = new WishWell();
        x.addLand(1, 9);
        for (int weekday = 0; weekday < 7; weekday++) {
            x.setTide(weekday, 9);
        }
        x.pass(30);
        int before = x.coins(4, 0);
        int above = x.coins(3, 0);
        x.pass(1);
        due.same("layer 4 keeps and receives", x.coins(4, 0), before + above / 2);
        due.same("no coin is lost", x.count(7), 31 * 9);
        due.same("none is missing", x.missing(0), 0);
    }

    private static void grantNeedsFavour() {
        WishWell x = new WishWell();
        x.addLand(40, 1);
        x.addLand(41, 1);
        x.wish(0, 0);
        x.withdraw(0);
        // The favour is now 49; a coin of 40 brings 4, and each price is 10 + 40.
        x.wish(0, 0);
        x.wish(0, 0);
        due.same("favour before", x.count(5), 57);
        due.same("pass(1) with enough", x.pass(1), 1);
        due.same("favour, 50 less and not 2 more", x.count(5), 7);
        due.same("told(1, 3)", x.told(1, 3), 1);
        due.same("told(1, 4)", x.told(1, 4), 0);
        due.same("pass(4) with too little", x.pass(4), 0);
        due.same("favour, 2 more a day", x.count(5), 15);
    }

    private static void grantWithExactFavour() {
        WishWell x = new WishWell();
        x.addLand(40, 1);
        x.addLand(10, 1);
        x.addLand(9, 1);
        x.wish(2, 3);
        x.withdraw(0);
        x.wish(0, 0);
        x.wish(1, 3);
        due.same("favour exactly 50", x.count(5), 50);
        due.same("granted with exactly 10 + 40", x.pass(1), 1);
        due.same("favour 0 then", x.count(5), 0);
    }

    private static void noGrantWithOneLess() {
        WishWell x = new WishWell();
        x.addLand(40, 1);
        x.addLand(9, 1);
        x.wish(1, 3);
        x.withdraw(0);
        x.wish(0, 0);
        due.same("favour 49", x.count(5), 49);
        due.same("not granted with 1 less", x.pass(1), 0);
        due.same("favour 51 then", x.count(5), 51);
        due.same("granted on the day 4", x.pass(4), 1);
        due.same("told(1, 4)", x.told(1, 4), 4);
        due.same("favour, 3 idle days and the price", x.count(5), 51 + 6 - 50);
    }

    private static void grantAfterVisitors() {
        WishWell x = new WishWell();
        x.addLand(50, 1);
        x.setTide(0, 1);
        x.wish(0, 0);
        due.same("favour before the visitor", x.count(5), 55);
        due.same("granted by the visitor's favour", x.pass(1), 1);
        due.same("favour", x.count(5), 0);
    }

    private static void grantGreatestOnly() {
        WishWell x = new WishWell();
        x.addLand(5, 1);
        x.addLand(50, 1);
        x.addLand(50, 1);
        x.wish(0, 0);
        due.same("wish", x.wish(2, 0), 1);
        due.same("wish", x.wish(1, 0), 2);
        due.same("pass(1)", x.pass(1), 1);
        due.same("the smallest wish of several", x.told(1, 3), 1);
        due.same("told(2, 3)", x.told(2, 3), 0);
        // The favour is 0 then, and enough for the cheap one on the day 8, but not for the dear one.
        due.same("pass(11)", x.pass(11), 0);
        due.same("favour enough for the cheap one", x.count(5), 22);
        due.same("the cheap one waits behind the dear one", x.pass(1), 0);
        due.same("told(0, 3)", x.told(0, 3), 0);
        x.withdraw(2);
        due.same("pass(4)", x.pass(4), 1);
        due.same("told(0, 4)", x.told(0, 4), 16);
    }

    private static void grantOneADay() {
        WishWell x = new WishWell();
        x.addLand(1, 1);
        for (int kind = 3; kind >= 0; kind--) {
            x.wish(0, kind);
            x.wish(0, kind);
        }
        due.same("pass(3)", x.pass(3), 3);
        due.same("count(4)", x.count(4), 3);
        int[] states = {0, 0, 1, 0, 1, 0, 1, 0};
        for (int wish = 0; wish < 8; wish++) {
            due.same("told(" + wish + ", 3)", x.told(wish, 3), states[wish]);
        }
        due.same("told(4, 4)", x.told(4, 4), 1);
        due.same("favour", x.count(5), 50 - 33);
        due.same("pass(2)", x.pass(2), 1);
        due.same("the kind 3 on the day 3", x.told(0, 4), 3);
        due.same("told(7, 4), too little favour on the day 4", x.told(7, 4), -1);
        due.same("favour", x.count(5), 8);
    }

    private static void idleFavourLimit() {
        WishWell x = new WishWell();
        x.addLand(10, 1);
        x.setTide(0, 1);
        x.pass(1);
        x.setTide(0, 0);
        due.same("favour, odd by a visitor", x.count(5), 53);
        x.pass(100);
        x.pass(100);
        x.pass(23);
        due.same("favour 1 below the limit", x.count(5), 499);
        x.pass(1);
        due.same("favour at the limit", x.count(5), 500);
        x.pass(1);
        due.same("favour stays at the limit", x.count(5), 500);
    }
}
