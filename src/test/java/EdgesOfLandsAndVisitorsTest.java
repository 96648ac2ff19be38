/** Promises 1 to 5, and what "Terms" says of lands, wishes, tide and favour: each boundary, on both sides. */
public final class EdgesOfLandsAndVisitorsTest {
    private static final Due due = new Due("EdgesOfLandsAndVisitorsTest");

    public static void main(String[] args) {
        newWellIsEmpty();
        newWellHasTheTurnOfTheKind0();
        newWellHasTheFavour50();
        newWellHasNoTide();
        valuesFrom1To50AreTaken();
        weightsFrom1To9AreTaken();
        sixLandsFindRoom();
        landBehindRefusedOnesHasTheNextNumber();
        weekdaysFrom0To6AreTaken();
        visitorsFrom0To9AreTaken();
        tideTellsWhatCameBefore();
        firstAndLastLandAndKindAreTaken();
        twentyFourWishesFindRoom();
        endedWishesKeepTheirPlace();
        wishGivesFavourForEachFull10();
        wishGivesFavourUpTo500();
        firstAndLastWishAreWithdrawn();
        onlyWishThatWaitsIsWithdrawn();
        withdrawCostsFavourDownTo0();
        withdrawTakesFromTheUppermostLayerOfAll();
        withdrawTakesTheLastCoinAndThenNone();
        withdrawTakesNoOtherLandsCoin();
        withdrawTakesAnyCoinOfTheLand();
        due.close();
    }

    /** "Creates an empty well without lands, on the day 0". */
    private static void newWellIsEmpty() {
        WishWell x = new WishWell();
        int[] empty = {0, 1, 2, 3, 4, 7, 8, 9, 10};
        for (int what : empty) {
            due.same("new: count(" + what + ")", x.count(what), 0);
        }
        due.same("new: richest()", x.richest(), -1);
        for (int layer = 0; layer <= 4; layer++) {
            due.same("new: audit(" + layer + ")", x.audit(layer), 0);
            due.same("new: fish(" + layer + ", 20)", x.fish(layer, 20), 0);
        }
        due.refused("new: missing(0)", Due.INDEX, x, () -> x.missing(0));
        due.refused("new: told(0, 0)", Due.INDEX, x, () -> x.told(0, 0));
    }

    /** "with the turn of the kind 0". */
    private static void newWellHasTheTurnOfTheKind0() {
        WishWell x = Wells.ofLand(1, 1);
        due.same("new: count(6)", x.count(6), 0);
        for (int kind = 3; kind >= 0; kind--) {
            x.wish(0, kind);
        }
        x.pass(1);
        due.same("new: the kind 0 is granted first", x.told(3, 3), 1);
        due.same("new: no other one is", x.count(4), 1);
    }

    /** "It has favour, 0 to 500 (50, at first)". */
    private static void newWellHasTheFavour50() {
        due.same("new: count(5)", new WishWell().count(5), 50);
    }

    /** "how many unknown visitors come, 0 to 9 (0, at first)". */
    private static void newWellHasNoTide() {
        WishWell x = Wells.ofLand(1, 1);
        x.pass(14);
        due.same("nobody comes without a tide", x.land(0, 2), 0);
        for (int weekday = 0; weekday <= 6; weekday++) {
            due.same("new: tide of " + weekday, new WishWell().setTide(weekday, 9), 0);
        }
    }

    /** "a value of its coin, 1 to 50 (in pence)". */
    private static void valuesFrom1To50AreTaken() {
        WishWell x = new WishWell();
        int[] values = {1, 50, 2, 49};
        for (int value : values) {
            due.same("value of land", x.land(x.addLand(value, 5), 0), value);
        }
        due.refused("addLand(0, 5)", Due.ARGUMENT, x, () -> x.addLand(0, 5));
        due.refused("addLand(51, 5)", Due.ARGUMENT, x, () -> x.addLand(51, 5));
        due.same("lands", x.count(1), 4);
    }

    /** "and a weight of it, 1 to 9". */
    private static void weightsFrom1To9AreTaken() {
        WishWell x = new WishWell();
        int[] weights = {1, 9, 2, 8};
        for (int weight : weights) {
            due.same("weight of land", x.land(x.addLand(25, weight), 1), weight);
        }
        due.refused("addLand(25, 0)", Due.ARGUMENT, x, () -> x.addLand(25, 0));
        due.refused("addLand(25, 10)", Due.ARGUMENT, x, () -> x.addLand(25, 10));
        due.same("lands", x.count(1), 4);
    }

    /** "There are at most 6, numbered from 0 in the order of their telling"; "IllegalStateException if there are 6". */
    private static void sixLandsFindRoom() {
        WishWell x = new WishWell();
        for (int land = 0; land < 6; land++) {
            due.same("addLand, there are " + land, x.addLand(land + 1, land + 2), land);
        }
        due.refused("addLand, there are 6", Due.STATE, x, () -> x.addLand(1, 1));
        due.same("lands", x.count(1), 6);
        for (int land = 0; land < 6; land++) {
            due.same("land(" + land + ", 0)", x.land(land, 0), land + 1);
            due.same("land(" + land + ", 1)", x.land(land, 1), land + 2);
            due.same("wish(" + land + ", 0)", x.wish(land, 0), land);
        }
        due.refused("wish(6, 0)", Due.INDEX, x, () -> x.wish(6, 0));
    }

    private static void landBehindRefusedOnesHasTheNextNumber() {
        WishWell x = Wells.ofLand(7, 3);
        due.refused("addLand(51, 1)", Due.ARGUMENT, x, () -> x.addLand(51, 1));
        due.refused("addLand(1, 10)", Due.ARGUMENT, x, () -> x.addLand(1, 10));
        due.same("addLand behind refused ones", x.addLand(8, 2), 1);
        due.same("land(1, 0)", x.land(1, 0), 8);
        due.same("land(0, 0)", x.land(0, 0), 7);
    }

    /** "weekday: a weekday, 0 to 6": each has its own number of visitors. */
    private static void weekdaysFrom0To6AreTaken() {
        for (int weekday = 0; weekday <= 6; weekday++) {
            WishWell x = Wells.ofLand(1, 1);
            due.same("setTide(" + weekday + ", 3)", x.setTide(weekday, 3), 0);
            for (int day = 0; day <= 6; day++) {
                int before = x.land(0, 2);
                x.pass(1);
                due.same("visitors of " + weekday + " on the day " + day, x.land(0, 2) - before, day == weekday ? 3 : 0);
            }
        }
        WishWell x = new WishWell();
        due.refused("setTide(-1, 3)", Due.INDEX, x, () -> x.setTide(-1, 3));
        due.refused("setTide(7, 3)", Due.INDEX, x, () -> x.setTide(7, 3));
    }

    /** "many: how many unknown visitors come on it", 0 to 9: as many come. */
    private static void visitorsFrom0To9AreTaken() {
        for (int many = 0; many <= 9; many++) {
            WishWell x = Wells.ofLand(1, 1);
            x.setTide(0, many);
            x.pass(1);
            due.same("visitors with the tide " + many, x.land(0, 2), many);
        }
        WishWell x = new WishWell();
        due.refused("setTide(0, -1)", Due.ARGUMENT, x, () -> x.setTide(0, -1));
        due.refused("setTide(0, 10)", Due.ARGUMENT, x, () -> x.setTide(0, 10));
    }

    /** "Returns how many came before." */
    private static void tideTellsWhatCameBefore() {
        int[] edges = {0, 6};
        for (int weekday : edges) {
            WishWell x = new WishWell();
            due.same("setTide, first", x.setTide(weekday, 9), 0);
            due.same("setTide, the same again", x.setTide(weekday, 9), 9);
            due.same("setTide, to 0", x.setTide(weekday, 0), 9);
            due.same("setTide, behind 0", x.setTide(weekday, 1), 0);
            due.refused("setTide, refused", Due.ARGUMENT, x, () -> x.setTide(weekday, 10));
            due.same("setTide, behind a refused one", x.setTide(weekday, 0), 1);
            due.same("setTide of another weekday", x.setTide(3, 0), 0);
        }
    }

    /** "IndexOutOfBoundsException if there is no such land"; "IllegalArgumentException if kind is not 0 to 3". */
    private static void firstAndLastLandAndKindAreTaken() {
        WishWell x = new WishWell();
        due.refused("wish(0, 0) without lands", Due.INDEX, x, () -> x.wish(0, 0));
        int wishes = 0;
        for (int last = 0; last < 3; last++) {
            x.addLand(1, 1);
            int beyond = last + 1;
            due.refused("wish(" + beyond + ", 0)", Due.INDEX, x, () -> x.wish(beyond, 0));
            due.refused("wish(-1, 0)", Due.INDEX, x, () -> x.wish(-1, 0));
            for (int kind = 0; kind <= 3; kind++) {
                int wish = x.wish(last, kind);
                due.same("number of the wish", wish, wishes);
                due.same("its kind", x.told(wish, 0), kind);
                due.same("its land", x.told(wish, 1), last);
                wishes++;
            }
            due.same("coins(0, " + last + ")", x.coins(0, last), 4);
        }
        due.refused("wish(0, -1)", Due.ARGUMENT, x, () -> x.wish(0, -1));
        due.refused("wish(0, 4)", Due.ARGUMENT, x, () -> x.wish(0, 4));
        due.same("wishes", x.count(2), wishes);
    }

    /** "There are at most 24, numbered likewise"; "IllegalStateException if there are 24". */
    private static void twentyFourWishesFindRoom() {
        WishWell x = Wells.ofLand(1, 1);
        for (int wish = 0; wish < 24; wish++) {
            due.same("wish, there are " + wish, x.wish(0, wish % 4), wish);
            due.same("wishes", x.count(2), wish + 1);
        }
        due.refused("wish, there are 24", Due.STATE, x, () -> x.wish(0, 0));
        due.same("wishes, no 25th", x.count(2), 24);
        due.same("coins, no 25th", x.count(7), 24);
        due.same("told(23, 0)", x.told(23, 0), 3);
        due.refused("told(24, 0)", Due.INDEX, x, () -> x.told(24, 0));
    }

    /** A wish that is granted or withdrawn is a wish still. */
    private static void endedWishesKeepTheirPlace() {
        WishWell x = Wells.ofLand(1, 1);
        Wells.wishes(x, 23, 0, 0);
        x.withdraw(5);
        due.same("granted", x.pass(1), 1);
        due.same("wish, 2 of 23 are ended", x.wish(0, 0), 23);
        due.refused("wish, 2 of 24 are ended", Due.STATE, x, () -> x.wish(0, 0));
    }

    /** "the favour is 1 more for each full 10 of its value". */
    private static void wishGivesFavourForEachFull10() {
        for (int value = 1; value <= 50; value++) {
            WishWell x = Wells.ofLand(value, 1);
            x.wish(0, 0);
            int full = value < 10 ? 0 : value < 20 ? 1 : value < 30 ? 2 : value < 40 ? 3 : value < 50 ? 4 : 5;
            due.same("favour behind a coin of " + value, x.count(5), 50 + full);
        }
    }

    /** "(at most 500)". */
    private static void wishGivesFavourUpTo500() {
        int[] before = {0, 494, 495, 496, 498, 499, 500};
        int[] behind = {5, 499, 500, 500, 500, 500, 500};
        for (int i = 0; i < before.length; i++) {
            WishWell x = Wells.withFavour(before[i]);
            due.same("favour as it is wanted", x.count(5), before[i]);
            x.addLand(50, 1);
            x.wish(2, 0);
            due.same("favour " + before[i] + " and a coin of 50", x.count(5), behind[i]);
        }
        int[] tens = {0, 498, 499, 500};
        for (int favour : tens) {
            WishWell x = Wells.withFavour(favour);
            x.wish(0, 0);
            due.same("favour " + favour + " and a coin of 1", x.count(5), favour);
            x.wish(1, 0);
            due.same("favour " + favour + " and a coin of 10", x.count(5), favour == 500 ? 500 : favour + 1);
        }
    }

    /** "IndexOutOfBoundsException if there is no such wish". */
    private static void firstAndLastWishAreWithdrawn() {
        WishWell x = Wells.ofLand(1, 1);
        due.refused("withdraw(0) without wishes", Due.INDEX, x, () -> x.withdraw(0));
        Wells.wishes(x, 24, 0, 0);
        due.refused("withdraw(-1)", Due.INDEX, x, () -> x.withdraw(-1));
        due.refused("withdraw(24)", Due.INDEX, x, () -> x.withdraw(24));
        due.same("withdraw(0)", x.withdraw(0), 0);
        due.same("withdraw(23)", x.withdraw(23), 0);
        for (int wish = 0; wish < 24; wish++) {
            due.same("told(" + wish + ", 3)", x.told(wish, 3), wish == 0 || wish == 23 ? 2 : 0);
        }
    }

    /** "IllegalStateException if it does not wait". */
    private static void onlyWishThatWaitsIsWithdrawn() {
        WishWell x = Wells.ofLand(1, 1);
        Wells.wishes(x, 3, 0, 0);
        x.withdraw(2);
        due.refused("withdraw, it is withdrawn", Due.STATE, x, () -> x.withdraw(2));
        due.same("granted", x.pass(1), 1);
        due.refused("withdraw, it is granted", Due.STATE, x, () -> x.withdraw(0));
        due.same("withdraw, it waits", x.withdraw(1), 0);
        due.refused("withdraw, it is withdrawn now", Due.STATE, x, () -> x.withdraw(1));
        due.same("coins", x.count(7), 1);
    }

    /** "the favour is 5 less (at least 0)". */
    private static void withdrawCostsFavourDownTo0() {
        int[] before = {500, 11, 10, 6, 5, 4, 3, 2, 1, 0};
        int[] behind = {495, 6, 5, 1, 0, 0, 0, 0, 0, 0};
        for (int i = 0; i < before.length; i++) {
            WishWell x = Wells.withFavour(before[i]);
            int wish = x.wish(0, 0);
            due.same("favour as it is wanted", x.count(5), before[i]);
            due.same("withdraw", x.withdraw(wish), 0);
            due.same("favour " + before[i] + ", 5 less", x.count(5), behind[i]);
            due.same("the wish is withdrawn", x.told(wish, 3), 2);
        }
    }

    /** "a coin of its land is taken back from the uppermost layer where there is one". */
    private static void withdrawTakesFromTheUppermostLayerOfAll() {
        int[] lying = {1, 4, 6, 4, 1};
        for (int uppermost = 0; uppermost <= 5; uppermost++) {
            WishWell x = Wells.ofLand(1, 9);
            Wells.wishes(x, 16, 0, 3);
            x.pass(4);
            for (int layer = 0; layer < uppermost && layer <= 4; layer++) {
                due.same("audit(" + layer + ")", x.audit(layer), lying[layer]);
            }
            due.same("withdraw, uppermost " + uppermost, x.withdraw(15), uppermost == 5 ? -1 : uppermost);
            for (int layer = 0; layer <= 4; layer++) {
                int left = layer < uppermost ? 0 : layer == uppermost ? lying[layer] - 1 : lying[layer];
                due.same("coins(" + layer + ", 0), uppermost " + uppermost, x.coins(layer, 0), left);
            }
            due.same("missing(0)", x.missing(0), 0);
        }
    }

    /** "Returns the layer from which the coin was taken, -1 if there was none": the last coin, and no coin. */
    private static void withdrawTakesTheLastCoinAndThenNone() {
        WishWell x = Wells.ofLand(10, 1);
        Wells.wishes(x, 2, 0, 2);
        x.fish(0, 1);
        due.same("withdraw with one coin", x.withdraw(1), 0);
        due.same("coins", x.count(7), 0);
        due.same("favour", x.count(5), 47);
        due.same("withdraw without a coin", x.withdraw(0), -1);
        due.same("coins, none below 0", x.coins(0, 0), 0);
        due.same("favour, 5 less all the same", x.count(5), 42);
        due.same("told(0, 3)", x.told(0, 3), 2);
        due.same("missing(0), only the fished one", x.missing(0), 1);
        due.same("land(0, 2)", x.land(0, 2), 2);
    }

    private static void withdrawTakesNoOtherLandsCoin() {
        WishWell x = Wells.ofLand(10, 1);
        x.addLand(50, 1);
        x.addLand(10, 1);
        x.wish(1, 2);
        x.fish(0, 1);
        x.wish(0, 2);
        x.wish(2, 2);
        due.same("withdraw, only others' coins lie there", x.withdraw(0), -1);
        due.same("coins(0, 0)", x.coins(0, 0), 1);
        due.same("coins(0, 2)", x.coins(0, 2), 1);
        due.same("withdraw(2)", x.withdraw(2), 0);
        due.same("coins(0, 0), later", x.coins(0, 0), 1);
        due.same("coins(0, 2), later", x.coins(0, 2), 0);
    }

    /** It need not be the wish's own coin: a visitor's coin of the same land will do. */
    private static void withdrawTakesAnyCoinOfTheLand() {
        WishWell x = Wells.ofLand(1, 1);
        x.setTide(0, 1);
        x.wish(0, 3);
        x.fish(0, 1);
        x.pass(1);
        due.same("a visitor's coin", x.coins(0, 0), 1);
        due.same("withdraw takes it", x.withdraw(0), 0);
        due.same("none is left", x.coins(0, 0), 0);
        due.same("missing(0)", x.missing(0), 1);
    }
}
