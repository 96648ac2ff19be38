/** Promises 6 to 8: fish, audit, missing. */
public final class AuditorsAndThievesTest {
    private static final Due due = new Due("AuditorsAndThievesTest");
    private static final int[] WRONG_LAYERS = {-1, 5, Integer.MIN_VALUE, Integer.MAX_VALUE};

    public static void main(String[] args) {
        fishTakesDearestFirst();
        fishTakesSmallestNumberOfSeveral();
        fishTakesCheapestToo();
        fishLimits();
        fishRefusals();
        auditEmptiesLayer();
        auditDeepestLayer();
        auditRefusals();
        missingCoins();
        missingRefusals();
        due.close();
    }

    private static void throwCoins(WishWell x, int land, int many) {
        for (int i = 0; i < many; i++) {
            x.wish(land, 3);
        }
    }

    private static void fishTakesDearestFirst() {
        WishWell x = new WishWell();
        x.addLand(3, 9);
        x.addLand(20, 9);
        x.addLand(7, 9);
        throwCoins(x, 0, 3);
        throwCoins(x, 1, 2);
        throwCoins(x, 2, 2);
        int favour = x.count(5);
        due.same("fish(0, 1)", x.fish(0, 1), 20);
        due.same("coins(0, 1)", x.coins(0, 1), 1);
        due.same("fish(0, 2)", x.fish(0, 2), 27);
        due.same("coins(0, 2)", x.coins(0, 2), 1);
        due.same("fish(0, 20), till none is left", x.fish(0, 20), 16);
        due.same("count(7)", x.count(7), 0);
        due.same("fish(0, 20), none left", x.fish(0, 20), 0);
        due.same("count(10)", x.count(10), 63);
        due.same("count(9), not the town's", x.count(9), 0);
        due.same("favour as before", x.count(5), favour);
        due.same("missing(0)", x.missing(0), 3);
        due.same("missing(1)", x.missing(1), 2);
        due.same("land(1, 2) as before", x.land(1, 2), 2);
        due.same("count(3), wishes wait on", x.count(3), 7);
    }

    private static void fishTakesSmallestNumberOfSeveral() {
        WishWell x = new WishWell();
        x.addLand(5, 4);
        x.addLand(9, 4);
        x.addLand(9, 4);
        throwCoins(x, 0, 2);
        throwCoins(x, 2, 2);
        throwCoins(x, 1, 2);
        due.same("fish(0, 1)", x.fish(0, 1), 9);
        due.same("coins(0, 1)", x.coins(0, 1), 1);
        due.same("coins(0, 2)", x.coins(0, 2), 2);
        due.same("fish(0, 2)", x.fish(0, 2), 18);
        due.same("coins(0, 1), later", x.coins(0, 1), 0);
        due.same("coins(0, 2), later", x.coins(0, 2), 1);
    }

    private static void fishTakesCheapestToo() {
        WishWell x = new WishWell();
        x.addLand(1, 4);
        throwCoins(x, 0, 3);
        due.same("fish(0, 2), coins of 1", x.fish(0, 2), 2);
        due.same("coins(0, 0), 1 left", x.coins(0, 0), 1);
    }

    private static void fishLimits() {
        WishWell x = new WishWell();
        x.addLand(2, 1);
        for (int weekday = 0; weekday < 7; weekday++) {
            x.setTide(weekday, 9);
        }
        x.pass(5);
        int above = x.coins(0, 0);
        int below = x.coins(1, 0);
        due.same("coins enough to fish 20", above > 20 ? 1 : 0, 1);
        due.same("fish(0, 20)", x.fish(0, 20), 40);
        due.same("coins(0, 0)", x.coins(0, 0), above - 20);
        due.same("coins(1, 0), another layer", x.coins(1, 0), below);
        due.same("fish(1, 1)", x.fish(1, 1), 2);
        due.same("coins(1, 0) behind it", x.coins(1, 0), below - 1);
        due.same("fish(4, 20)", x.fish(4, 20), 0);
        due.same("count(10)", x.count(10), 42);
        due.same("missing(0)", x.missing(0), 21);
    }

    private static void fishRefusals() {
        WishWell x = new WishWell();
        x.addLand(10, 5);
        throwCoins(x, 0, 5);
        for (int layer : WRONG_LAYERS) {
            due.refused("fish(" + layer + ", 1)", Due.INDEX, x, () -> x.fish(layer, 1));
            due.refused("fish(" + layer + ", 0)", Due.INDEX, x, () -> x.fish(layer, 0));
        }
        int[] wrongMany = {0, 21, -1, Integer.MIN_VALUE, Integer.MAX_VALUE};
        for (int many : wrongMany) {
            due.refused("fish(0, " + many + ")", Due.ARGUMENT, x, () -> x.fish(0, many));
        }
        due.same("fish(4, 1) of a well without lands", new WishWell().fish(4, 1), 0);
    }

    private static void auditEmptiesLayer() {
        WishWell x = new WishWell();
        x.addLand(3, 4);
        x.addLand(20, 1);
        throwCoins(x, 0, 5);
        throwCoins(x, 1, 4);
        x.pass(1);
        due.same("audit(0)", x.audit(0), 3 + 3);
        due.same("purse", x.count(9), 3 * 3 + 3 * 20);
        due.same("coins(0, 0)", x.coins(0, 0), 0);
        due.same("coins(0, 1)", x.coins(0, 1), 0);
        due.same("coins(1, 0), another layer", x.coins(1, 0), 2);
        due.same("coins(1, 1), another layer", x.coins(1, 1), 1);
        due.same("land(0, 4)", x.land(0, 4), 3);
        due.same("land(1, 4)", x.land(1, 4), 3);
        due.same("audit(0), empty", x.audit(0), 0);
        due.same("audit(1)", x.audit(1), 3);
        due.same("purse, added", x.count(9), 69 + 2 * 3 + 20);
        due.same("land(0, 4), added", x.land(0, 4), 5);
        due.same("land(1, 2) as before", x.land(1, 2), 4);
        due.same("missing(0)", x.missing(0), 0);
        due.same("count(10), nothing fished", x.count(10), 0);
        due.same("count(8)", x.count(8), 0);
    }

    private static void auditDeepestLayer() {
        WishWell x = new WishWell();
        x.addLand(1, 9);
        throwCoins(x, 0, 16);
        x.pass(4);
        due.same("coins(4, 0)", x.coins(4, 0), 1);
        due.same("audit(4)", x.audit(4), 1);
        due.same("coins(4, 0), emptied", x.coins(4, 0), 0);
        due.same("coins in the well", x.count(7), 15);
        due.same("audit(2) without lands", new WishWell().audit(2), 0);
    }

    private static void auditRefusals() {
        WishWell x = new WishWell();
        x.addLand(10, 5);
        throwCoins(x, 0, 2);
        for (int layer : WRONG_LAYERS) {
            due.refused("audit(" + layer + ")", Due.INDEX, x, () -> x.audit(layer));
        }
    }

    private static void missingCoins() {
        WishWell x = new WishWell();
        x.addLand(10, 5);
        x.addLand(4, 5);
        throwCoins(x, 0, 5);
        throwCoins(x, 1, 5);
        due.same("missing(0), all there", x.missing(0), 0);
        x.fish(0, 2);
        due.same("missing(0), 2 fished", x.missing(0), 2);
        due.same("missing(1)", x.missing(1), 0);
        x.withdraw(0);
        due.same("missing(0), 1 taken back", x.missing(0), 2);
        x.fish(0, 5);
        due.same("missing(0), 4 fished", x.missing(0), 4);
        due.same("missing(1), 3 fished", x.missing(1), 3);
        x.audit(0);
        x.withdraw(1);
        x.pass(1);
        due.same("missing(0), at last", x.missing(0), 4);
        due.same("missing(1), at last", x.missing(1), 3);
    }

    private static void missingRefusals() {
        WishWell x = new WishWell();
        x.addLand(10, 5);
        int[] wrong = {-1, 1, 6, Integer.MIN_VALUE, Integer.MAX_VALUE};
        for (int land : wrong) {
            due.refused("missing(" + land + ")", Due.INDEX, x, () -> x.missing(land));
        }
    }
}
