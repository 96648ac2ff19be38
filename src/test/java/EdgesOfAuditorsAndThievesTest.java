/** Promises 6 to 8: each boundary, on both sides. */
public final class EdgesOfAuditorsAndThievesTest {
    private static final Due due = new Due("EdgesOfAuditorsAndThievesTest");
    /** Where 16 heavy coins lie behind four days. */
    private static final int[] DEEP = {1, 4, 6, 4, 1};

    public static void main(String[] args) {
        fishTakesAsManyAsAsked();
        fishTakesTillNoneIsLeft();
        fishTakesFromEachLayer();
        fishTakesTheDearestThatIsLeftThere();
        fishTakesTheSmallestNumberOfSeveral();
        fishIsAdded();
        fishTakesNothingElse();
        auditOfNoCoinAndOfOne();
        auditEmptiesEachLayerAlone();
        auditCountsCoinsOfFirstAndLastLand();
        auditAddsToThePurse();
        missingOfNoCoinAndOfOne();
        missingOfFirstAndLastLand();
        due.close();
    }

    private static WishWell deepWell() {
        WishWell x = Wells.ofLand(7, 9);
        Wells.wishes(x, 16, 0, 3);
        x.pass(3);
        x.pass(1);
        return x;
    }

    private static void layersAre(String when, WishWell x, int changed, int left) {
        for (int layer = 0; layer <= 4; layer++) {
            due.same(when + ": coins(" + layer + ", 0)", x.coins(layer, 0), layer == changed ? left : DEEP[layer]);
        }
    }

    /** "till as many are taken": 1 and 20 are the fewest and the most. */
    private static void fishTakesAsManyAsAsked() {
        int[] asked = {1, 2, 19, 20};
        for (int many : asked) {
            WishWell x = Wells.ofLand(3, 1);
            Wells.wishes(x, 21, 0, 0);
            due.same("fish(0, " + many + ") of 21 coins", x.fish(0, many), 3 * many);
            due.same("left behind fish(0, " + many + ")", x.coins(0, 0), 21 - many);
        }
    }

    /** "or none is left": with no coin, one coin, and around as many as are asked for. */
    private static void fishTakesTillNoneIsLeft() {
        int[] lying = {0, 1, 19, 20, 21};
        for (int many : lying) {
            WishWell x = Wells.ofLand(3, 1);
            Wells.wishes(x, many, 0, 0);
            int taken = many == 21 ? 20 : many;
            due.same("fish(0, 20) of " + many + " coins", x.fish(0, 20), 3 * taken);
            due.same("left of " + many, x.coins(0, 0), many - taken);
            due.same("missing of " + many, x.missing(0), taken);
            due.same("fish(0, 1) again", x.fish(0, 1), many == 21 ? 3 : 0);
            due.same("fish(0, 1) once more", x.fish(0, 1), 0);
        }
        due.same("fish(0, 1) without lands", new WishWell().fish(0, 1), 0);
    }

    private static void fishTakesFromEachLayer() {
        for (int layer = 0; layer <= 4; layer++) {
            WishWell x = deepWell();
            due.same("fish(" + layer + ", 1)", x.fish(layer, 1), 7);
            layersAre("behind fish(" + layer + ", 1)", x, layer, DEEP[layer] - 1);
            due.same("fish(" + layer + ", 20)", x.fish(layer, 20), 7 * (DEEP[layer] - 1));
            layersAre("behind fish(" + layer + ", 20)", x, layer, 0);
            due.same("fish(" + layer + ", 20), empty", x.fish(layer, 20), 0);
            due.same("count(10)", x.count(10), 7 * DEEP[layer]);
        }
    }

    /** "always one of the land with the greatest value of which some are left there". */
    private static void fishTakesTheDearestThatIsLeftThere() {
        int[] taken = {50, 50, 49, 49, 2, 2, 1, 1, 0};
        WishWell x = wellOfPairs();
        for (int i = 0; i < taken.length; i++) {
            due.same("coin " + i + " that is fished", x.fish(0, 1), taken[i]);
        }
        int sum = 0;
        for (int many = 1; many <= 8; many++) {
            sum += taken[many - 1];
            due.same("fish(0, " + many + ")", wellOfPairs().fish(0, many), sum);
        }
        due.same("fish(0, 9), none is left", wellOfPairs().fish(0, 9), sum);
    }

    /** Two coins each of four lands, of which the dearest is neither the first nor the last. */
    private static WishWell wellOfPairs() {
        WishWell x = new WishWell();
        int[] values = {2, 50, 1, 49};
        for (int land = 0; land < 4; land++) {
            x.addLand(values[land], 1);
            Wells.wishes(x, 2, land, 0);
        }
        return x;
    }

    /** "of several the one with the smallest number": 0 before 5, though 5 was thrown first. */
    private static void fishTakesTheSmallestNumberOfSeveral() {
        WishWell x = new WishWell();
        for (int land = 0; land < 6; land++) {
            x.addLand(land == 2 ? 8 : 9, 1);
        }
        for (int land = 5; land >= 0; land--) {
            x.wish(land, 0);
        }
        int[] order = {0, 1, 3, 4, 5, 2};
        for (int land : order) {
            due.same("coins(0, " + land + ") before", x.coins(0, land), 1);
            due.same("fish(0, 1)", x.fish(0, 1), land == 2 ? 8 : 9);
            due.same("coins(0, " + land + ") behind", x.coins(0, land), 0);
        }
    }

    /** "Returns the value of what is taken, added", and count(10) "the value of all that was fished". */
    private static void fishIsAdded() {
        WishWell x = wellOfPairs();
        due.same("fish(0, 3)", x.fish(0, 3), 149);
        due.same("count(10)", x.count(10), 149);
        due.same("fish(0, 20)", x.fish(0, 20), 55);
        due.same("count(10), added", x.count(10), 204);
        due.same("fish(0, 20), none left", x.fish(0, 20), 0);
        due.same("count(10), as before", x.count(10), 204);
    }

    private static void fishTakesNothingElse() {
        WishWell x = wellOfPairs();
        int favour = x.count(5);
        x.fish(0, 20);
        due.same("favour", x.count(5), favour);
        due.same("purse", x.count(9), 0);
        due.same("day", x.count(0), 0);
        due.same("wishes wait on", x.count(3), 8);
        for (int land = 0; land < 4; land++) {
            due.same("land(" + land + ", 2)", x.land(land, 2), 2);
            due.same("land(" + land + ", 4)", x.land(land, 4), 0);
            due.same("missing(" + land + ")", x.missing(land), 2);
        }
    }

    /** "Returns how many coins these are", of a layer with no coin and with one. */
    private static void auditOfNoCoinAndOfOne() {
        due.same("audit(0) without lands", new WishWell().audit(0), 0);
        due.same("audit(4) without lands", new WishWell().audit(4), 0);
        WishWell x = Wells.ofLand(50, 1);
        due.same("audit(0) with no coin", x.audit(0), 0);
        due.same("purse", x.count(9), 0);
        due.same("land(0, 4)", x.land(0, 4), 0);
        x.wish(0, 1);
        due.same("audit(1), no coin there", x.audit(1), 0);
        due.same("audit(0) with one coin", x.audit(0), 1);
        due.same("purse with it", x.count(9), 50);
        due.same("land(0, 4) with it", x.land(0, 4), 1);
        due.same("audit(0), emptied", x.audit(0), 0);
        due.same("purse as before", x.count(9), 50);
        due.same("land(0, 4) as before", x.land(0, 4), 1);
    }

    private static void auditEmptiesEachLayerAlone() {
        for (int layer = 0; layer <= 4; layer++) {
            WishWell x = deepWell();
            int favour = x.count(5);
            due.same("audit(" + layer + ")", x.audit(layer), DEEP[layer]);
            layersAre("behind audit(" + layer + ")", x, layer, 0);
            due.same("purse", x.count(9), 7 * DEEP[layer]);
            due.same("land(0, 4)", x.land(0, 4), DEEP[layer]);
            due.same("land(0, 3)", x.land(0, 3), 16 - DEEP[layer]);
            due.same("favour as before", x.count(5), favour);
            due.same("nothing fished", x.count(10), 0);
            due.same("missing(0)", x.missing(0), 0);
        }
    }

    private static void auditCountsCoinsOfFirstAndLastLand() {
        WishWell x = new WishWell();
        for (int land = 0; land < 6; land++) {
            x.addLand(land + 1, 1);
        }
        Wells.wishes(x, 2, 0, 0);
        Wells.wishes(x, 3, 5, 0);
        due.same("audit(0)", x.audit(0), 5);
        due.same("purse", x.count(9), 2 * 1 + 3 * 6);
        for (int land = 0; land < 6; land++) {
            due.same("land(" + land + ", 4)", x.land(land, 4), land == 0 ? 2 : land == 5 ? 3 : 0);
            due.same("coins(0, " + land + ")", x.coins(0, land), 0);
        }
    }

    /** "their values are added to its purse". */
    private static void auditAddsToThePurse() {
        WishWell x = deepWell();
        int sum = 0;
        for (int layer = 4; layer >= 0; layer--) {
            x.audit(layer);
            sum += DEEP[layer];
            due.same("purse behind audit(" + layer + ")", x.count(9), 7 * sum);
            due.same("land(0, 4) behind audit(" + layer + ")", x.land(0, 4), sum);
        }
        due.same("coins in the well", x.count(7), 0);
    }

    /** "those that were thrown in all, less those that lie in the well, were audited, or taken back". */
    private static void missingOfNoCoinAndOfOne() {
        WishWell x = Wells.ofLand(5, 9);
        due.same("missing(0), none thrown", x.missing(0), 0);
        Wells.wishes(x, 16, 0, 3);
        due.same("missing(0), all in the layer 0", x.missing(0), 0);
        x.pass(3);
        x.pass(1);
        due.same("missing(0), in all layers", x.missing(0), 0);
        x.withdraw(15);
        due.same("missing(0), one taken back", x.missing(0), 0);
        x.audit(1);
        due.same("missing(0), four audited", x.missing(0), 0);
        x.fish(2, 1);
        due.same("missing(0), one fished", x.missing(0), 1);
        x.fish(4, 1);
        due.same("missing(0), another one fished", x.missing(0), 2);
        x.audit(2);
        x.audit(3);
        x.withdraw(14);
        due.same("missing(0), no coin to take back", x.missing(0), 2);
        due.same("coins in the well", x.count(7), 0);
    }

    private static void missingOfFirstAndLastLand() {
        WishWell x = new WishWell();
        for (int land = 0; land < 6; land++) {
            x.addLand(10 + land, 1);
        }
        x.wish(0, 0);
        x.wish(5, 0);
        x.fish(0, 1);
        due.same("missing(5), the dearer one fished", x.missing(5), 1);
        due.same("missing(0)", x.missing(0), 0);
        x.fish(0, 1);
        due.same("missing(0), fished", x.missing(0), 1);
        due.same("missing(5), as before", x.missing(5), 1);
        due.same("missing(3)", x.missing(3), 0);
    }
}
