/** Promise 13, and what "A day goes like this" says of each step: each boundary, on both sides. */
public final class EdgesOfDaysTest {
    private static final Due due = new Due("EdgesOfDaysTest");

    public static void main(String[] args) {
        daysFrom1To100AreTaken();
        passIsAsManySingleDays();
        passTellsWhatIsGrantedInIt();
        weekdayComesRoundAgain();
        turnComesRoundAgain();
        turnMovesOnGrantOrNone();
        nobodyComesWithoutLands();
        visitorsLandComesRoundAgain();
        visitorsCoinLiesInTheLayer0();
        visitorGivesFavourForEachFull10();
        visitorGivesFavourUpTo500();
        visitorGivesFavourFrom0();
        weightOf4SinksByHalf();
        weightOf3SinksByAQuarter();
        eachLayerSinksIntoTheNext();
        coinSinksOneLayerADay();
        eachLandSinksByItself();
        grantTakesTheGreatestValue();
        grantTakesTheSmallestNumberOfSeveral();
        grantTakesOnlyWhatWaits();
        grantTakesOnlyTheKindOfTheTurn();
        grantNeeds10AndTheValue();
        grantCosts10AndTheValue();
        grantOfTheGreatestFavour();
        grantLeavesTheCoin();
        noGrantBringsFavourUpTo500();
        noGrantOfACheaperOne();
        mostThatCanCome();
        due.close();
    }

    private static void layersAre(String when, WishWell x, int land, int... want) {
        for (int layer = 0; layer <= 4; layer++) {
            due.same(when + ": coins(" + layer + ", " + land + ")", x.coins(layer, land), want[layer]);
        }
    }

    /** "IllegalArgumentException if days is not 1 to 100". */
    private static void daysFrom1To100AreTaken() {
        WishWell x = new WishWell();
        int[] taken = {1, 2, 99, 100};
        int day = 0;
        for (int days : taken) {
            x.pass(days);
            day += days;
            due.same("day behind pass(" + days + ")", x.count(0), day);
        }
        due.refused("pass(0)", Due.ARGUMENT, x, () -> x.pass(0));
        due.refused("pass(101)", Due.ARGUMENT, x, () -> x.pass(101));
    }

    private static void passIsAsManySingleDays() {
        WishWell x = Wells.full();
        WishWell y = Wells.full();
        int granted = 0;
        for (int day = 0; day < 100; day++) {
            granted += x.pass(1);
        }
        due.same("pass(100)", y.pass(100), granted);
        due.same("what is seen behind it", Seen.of(y), Seen.of(x));
    }

    /** "Returns how many wishes are granted in them": none, one, all of several days, and not those before. */
    private static void passTellsWhatIsGrantedInIt() {
        WishWell x = Wells.ofLand(1, 1);
        due.same("pass(1), no wish", x.pass(1), 0);
        for (int kind = 0; kind <= 3; kind++) {
            x.wish(0, kind);
        }
        due.same("pass(1), one is granted", x.pass(1), 1);
        due.same("pass(3), one on each day", x.pass(3), 3);
        due.same("count(4)", x.count(4), 4);
        due.same("pass(4), those before are not counted", x.pass(4), 0);
    }

    /** "the day by the remainder of 7": the day 7 is as the day 0. */
    private static void weekdayComesRoundAgain() {
        WishWell x = Wells.ofLand(1, 1);
        x.setTide(0, 2);
        x.setTide(6, 5);
        int[] come = {2, 0, 0, 0, 0, 0, 5};
        int thrown = 0;
        for (int day = 0; day <= 21; day++) {
            x.pass(1);
            thrown += come[day % 7];
            due.same("thrown behind the day " + day, x.land(0, 2), thrown);
        }
        x.pass(97);
        due.same("thrown behind the day 118", x.land(0, 2), 17 * 7);
        x.pass(1);
        due.same("thrown behind the day 119", x.land(0, 2), 17 * 7 + 2);
    }

    /** "The next kind has its turn on the next day (0 behind 3)." */
    private static void turnComesRoundAgain() {
        WishWell x = Wells.ofLand(1, 1);
        int[] turns = {1, 2, 3, 0, 1, 2, 3, 0, 1};
        for (int day = 0; day < turns.length; day++) {
            x.pass(1);
            due.same("turn behind the day " + day, x.count(6), turns[day]);
        }
        x.pass(98);
        due.same("turn on the day 107", x.count(6), 3);
        x.wish(0, 3);
        x.wish(0, 0);
        due.same("the kind 3 is granted", x.pass(1), 1);
        due.same("the kind 0 waits", x.told(1, 3), 0);
        due.same("turn on the day 108", x.count(6), 0);
        due.same("the kind 0 is granted behind 3", x.pass(1), 1);
        due.same("told(1, 4)", x.told(1, 4), 108);
        due.same("turn on the day 109", x.count(6), 1);
    }

    /** A kind has its turn on one day, whether a wish of it was granted, was too dear, or none waited. */
    private static void turnMovesOnGrantOrNone() {
        WishWell x = Wells.ofLand(1, 1);
        x.addLand(50, 1);
        x.wish(0, 0);
        x.wish(1, 1);
        due.same("granted", x.pass(1), 1);
        due.same("turn behind a grant", x.count(6), 1);
        due.same("too dear", x.pass(1), 0);
        due.same("turn behind too little favour", x.count(6), 2);
        due.same("none waits", x.pass(1), 0);
        due.same("turn behind none", x.count(6), 3);
    }

    /** "nobody without lands", and somebody with the first one. */
    private static void nobodyComesWithoutLands() {
        WishWell x = new WishWell();
        Wells.tideOnAllDays(x, 9);
        x.pass(7);
        due.same("coins without lands", x.count(7), 0);
        due.same("favour without lands", x.count(5), 64);
        x.addLand(10, 1);
        due.same("nobody before the day goes by", x.count(7), 0);
        x.pass(1);
        due.same("coins with one land", x.land(0, 2), 9);
        due.same("favour with one land", x.count(5), 64 + 9 + 2);
    }

    /** "the number (the day and the number of this visitor, from 0, added) by the remainder of the lands". */
    private static void visitorsLandComesRoundAgain() {
        for (int lands = 1; lands <= 6; lands++) {
            WishWell x = new WishWell();
            for (int land = 0; land < lands; land++) {
                x.addLand(1, 1);
            }
            x.setTide(0, 1);
            x.setTide(5, 2);
            x.setTide(6, 9);
            int[] thrown = new int[lands];
            int[] come = {1, 0, 0, 0, 0, 2, 9};
            for (int day = 0; day < 14; day++) {
                x.pass(1);
                for (int number = day; number < day + come[day % 7]; number++) {
                    int land = number;
                    while (land >= lands) {
                        land -= lands;
                    }
                    thrown[land]++;
                }
                for (int land = 0; land < lands; land++) {
                    due.same("day " + day + " of " + lands + " lands: land(" + land + ", 2)", x.land(land, 2), thrown[land]);
                }
            }
        }
    }

    /** "the coin comes to the layer 0", before the sinking; "each throws a coin without a wish". */
    private static void visitorsCoinLiesInTheLayer0() {
        WishWell x = Wells.ofLand(1, 3);
        x.setTide(0, 3);
        x.setTide(1, 1);
        x.pass(1);
        layersAre("three coins", x, 0, 3, 0, 0, 0, 0);
        x.pass(1);
        layersAre("the fourth comes before the sinking", x, 0, 3, 1, 0, 0, 0);
        due.same("no wishes", x.count(2), 0);
    }

    /** "the favour is 1 more for each full 10 of its value", for each visitor alone. */
    private static void visitorGivesFavourForEachFull10() {
        int[] values = {1, 9, 10, 11, 19, 20, 29, 30, 39, 40, 49, 50};
        for (int value : values) {
            WishWell x = Wells.ofLand(value, 1);
            x.setTide(0, 9);
            x.pass(1);
            due.same("favour behind 9 coins of " + value, x.count(5), 50 + 9 * (value / 10) + 2);
        }
    }

    /** "(at most 500)": seen behind a grant, which takes from what the visitors left. */
    private static void visitorGivesFavourUpTo500() {
        int[] before = {493, 494, 495, 499, 500};
        int[] visited = {499, 500, 500, 500, 500};
        for (int i = 0; i < before.length; i++) {
            WishWell x = Wells.withFavour(before[i]);
            x.addLand(50, 1);
            x.wish(0, 0);
            // One visitor from each land, and so 1 and 5 of favour, whatever the day is.
            x.setTide(x.count(0) % 7, 3);
            due.same("favour as it is wanted", x.count(5), before[i]);
            due.same("granted", x.pass(1), 1);
            due.same("a visitor's coin of 50", x.land(2, 2), 1);
            due.same("favour " + before[i] + ", visitors, a grant", x.count(5), visited[i] - 11);
        }
    }

    private static void visitorGivesFavourFrom0() {
        WishWell x = Wells.withFavour(0);
        x.addLand(50, 1);
        x.wish(0, 0);
        x.setTide(x.count(0) % 7, 3);
        due.same("too little for a grant", x.pass(1), 0);
        due.same("favour 0, visitors, no grant", x.count(5), 6 + 2);
        WishWell y = Wells.withFavour(0);
        y.addLand(50, 1);
        y.wish(0, 0);
        y.setTide(y.count(0) % 7, 6);
        due.same("enough for a grant, by the visitors", y.pass(1), 1);
        due.same("favour 0, twice as many visitors, a grant", y.count(5), 12 - 11);
    }

    /** "of each land with a weight of 4 or more half of its coins (cut) in this layer sink". */
    private static void weightOf4SinksByHalf() {
        int[] weights = {4, 5, 9};
        for (int weight : weights) {
            sinksFromTheLayer0(weight, 0, 0, 1, 1, 2, 2, 3, 3, 4, 4);
        }
    }

    /** "of each other land a quarter (cut)". */
    private static void weightOf3SinksByAQuarter() {
        int[] weights = {1, 2, 3};
        for (int weight : weights) {
            sinksFromTheLayer0(weight, 0, 0, 0, 0, 1, 1, 1, 1, 2, 2, 2, 2, 3);
        }
    }

    /** How many coins of the weight sink on one day, of 0 coins, of 1, and so on. */
    private static void sinksFromTheLayer0(int weight, int... sinking) {
        for (int many = 0; many < sinking.length; many++) {
            WishWell x = Wells.ofLand(1, weight);
            Wells.wishes(x, many, 0, 3);
            x.pass(1);
            layersAre(many + " coins of the weight " + weight, x, 0, many - sinking[many], sinking[many], 0, 0, 0);
        }
    }

    /** "Sinking, from the layer 3 up to the layer 0": a single coin stays, and of two one sinks; the layer 4 keeps. */
    private static void eachLayerSinksIntoTheNext() {
        WishWell x = Wells.ofLand(1, 4);
        Wells.wishes(x, 16, 0, 3);
        x.pass(4);
        layersAre("day 4", x, 0, 1, 4, 6, 4, 1);
        x.pass(1);
        layersAre("day 5", x, 0, 1, 2, 5, 5, 3);
        x.pass(1);
        layersAre("day 6", x, 0, 1, 1, 4, 5, 5);
        x.pass(1);
        layersAre("day 7", x, 0, 1, 1, 2, 5, 7);
        x.pass(1);
        layersAre("day 8", x, 0, 1, 1, 1, 4, 9);
        x.pass(2);
        layersAre("day 10", x, 0, 1, 1, 1, 1, 12);
        x.pass(100);
        layersAre("day 110", x, 0, 1, 1, 1, 1, 12);
        due.same("none is lost", x.land(0, 3), 16);
    }

    private static void coinSinksOneLayerADay() {
        WishWell heavy = Wells.ofLand(1, 4);
        Wells.wishes(heavy, 16, 0, 3);
        heavy.pass(1);
        layersAre("heavy, day 1", heavy, 0, 8, 8, 0, 0, 0);
        heavy.pass(1);
        layersAre("heavy, day 2", heavy, 0, 4, 8, 4, 0, 0);
        heavy.pass(1);
        layersAre("heavy, day 3", heavy, 0, 2, 6, 6, 2, 0);
        WishWell light = Wells.ofLand(1, 3);
        Wells.wishes(light, 24, 0, 3);
        light.pass(1);
        layersAre("light, day 1", light, 0, 18, 6, 0, 0, 0);
        light.pass(1);
        layersAre("light, day 2", light, 0, 14, 9, 1, 0, 0);
    }

    /** "of each land": one coin each of two lands is no pair. */
    private static void eachLandSinksByItself() {
        WishWell x = new WishWell();
        for (int land = 0; land < 6; land++) {
            x.addLand(1, land < 3 ? 4 : 3);
            Wells.wishes(x, land < 3 ? 1 : 3, land, 3);
        }
        x.pass(10);
        due.same("audit(1), nothing has sunk", x.audit(1), 0);
        x.wish(5, 3);
        x.wish(2, 3);
        x.pass(1);
        layersAre("the last heavy land", x, 2, 1, 1, 0, 0, 0);
        layersAre("the last land", x, 5, 3, 1, 0, 0, 0);
        layersAre("another land", x, 4, 3, 0, 0, 0, 0);
    }

    /** "the one with the coin of the greatest value": 1 more is enough. */
    private static void grantTakesTheGreatestValue() {
        for (int dearest = 0; dearest < 3; dearest++) {
            WishWell x = new WishWell();
            for (int land = 0; land < 3; land++) {
                x.addLand(land == dearest ? 8 : 7, 1);
            }
            for (int land = 0; land < 3; land++) {
                x.wish(land, 0);
            }
            x.pass(1);
            for (int wish = 0; wish < 3; wish++) {
                due.same("told(" + wish + ", 3), dearest " + dearest, x.told(wish, 3), wish == dearest ? 1 : 0);
            }
        }
    }

    /** "of several the one with the smallest number": of the wish, and not of its land. */
    private static void grantTakesTheSmallestNumberOfSeveral() {
        WishWell x = Wells.ofLand(7, 1);
        x.addLand(7, 1);
        x.addLand(6, 1);
        int[] lands = {2, 1, 0, 1};
        for (int land : lands) {
            x.wish(land, 0);
        }
        x.pass(1);
        for (int wish = 0; wish < 4; wish++) {
            due.same("told(" + wish + ", 3)", x.told(wish, 3), wish == 1 ? 1 : 0);
        }
        x.pass(4);
        due.same("told(2, 3), the next one", x.told(2, 3), 1);
        due.same("told(3, 3)", x.told(3, 3), 0);
    }

    /** "of the wishes that wait": not of the withdrawn and the granted ones. */
    private static void grantTakesOnlyWhatWaits() {
        WishWell x = Wells.ofLand(9, 1);
        x.addLand(8, 1);
        x.wish(0, 0);
        x.wish(0, 0);
        x.wish(1, 0);
        x.withdraw(0);
        due.same("pass(1)", x.pass(1), 1);
        due.same("told(0, 3), withdrawn", x.told(0, 3), 2);
        due.same("told(1, 4)", x.told(1, 4), 0);
        due.same("pass(4)", x.pass(4), 1);
        due.same("told(1, 4), as before", x.told(1, 4), 0);
        due.same("told(2, 4)", x.told(2, 4), 4);
        due.same("pass(4), none waits", x.pass(4), 0);
    }

    /** "of the kind whose turn it is": each kind on its own day alone. */
    private static void grantTakesOnlyTheKindOfTheTurn() {
        for (int kind = 0; kind <= 3; kind++) {
            WishWell x = Wells.ofLand(1, 1);
            x.wish(0, kind);
            for (int day = 0; day < kind; day++) {
                due.same("the kind " + kind + " on the day " + day, x.pass(1), 0);
            }
            due.same("the kind " + kind + " on its day", x.pass(1), 1);
            due.same("told(0, 4)", x.told(0, 4), kind);
        }
    }

    /** "if the favour is at least 10 + the value of its coin": just as much, and 1 less. */
    private static void grantNeeds10AndTheValue() {
        int[] values = {1, 9, 10, 50};
        for (int value : values) {
            int price = 10 + value;
            WishWell enough = Wells.withFavour(price - value / 10);
            enough.addLand(value, 1);
            enough.wish(2, 0);
            due.same("favour, just the price of " + value, enough.count(5), price);
            due.same("granted with it", enough.pass(1), 1);
            due.same("favour 0 behind it", enough.count(5), 0);
            WishWell less = Wells.withFavour(price - value / 10 - 1);
            less.addLand(value, 1);
            less.wish(2, 0);
            due.same("favour, 1 less than the price of " + value, less.count(5), price - 1);
            due.same("not granted with it", less.pass(1), 0);
            due.same("favour 2 more", less.count(5), price + 1);
        }
        WishWell none = Wells.withFavour(0);
        none.wish(0, 0);
        due.same("not granted with the favour 0", none.pass(1), 0);
        due.same("favour 2 behind 0", none.count(5), 2);
    }

    /** "the favour is as much less then", and not 2 more. */
    private static void grantCosts10AndTheValue() {
        int[] values = {1, 9, 10, 34};
        for (int value : values) {
            WishWell x = Wells.ofLand(value, 1);
            x.wish(0, 0);
            due.same("granted, value " + value, x.pass(1), 1);
            due.same("favour, value " + value, x.count(5), 50 + value / 10 - 10 - value);
        }
    }

    private static void grantOfTheGreatestFavour() {
        WishWell x = Wells.withFavour(500);
        x.addLand(50, 1);
        x.wish(2, 0);
        due.same("granted", x.pass(1), 1);
        due.same("favour 500 less 60", x.count(5), 440);
    }

    private static void grantLeavesTheCoin() {
        WishWell x = Wells.ofLand(1, 1);
        x.wish(0, 0);
        due.same("granted", x.pass(1), 1);
        layersAre("behind a grant", x, 0, 1, 0, 0, 0, 0);
        due.same("missing(0)", x.missing(0), 0);
    }

    /** "If no wish is granted, the favour is 2 more (at most 500)." */
    private static void noGrantBringsFavourUpTo500() {
        int[] before = {0, 1, 496, 497, 498, 499, 500};
        int[] behind = {2, 3, 498, 499, 500, 500, 500};
        for (int i = 0; i < before.length; i++) {
            WishWell x = Wells.withFavour(before[i]);
            x.pass(1);
            due.same("favour " + before[i] + " behind a day", x.count(5), behind[i]);
            WishWell y = Wells.withFavour(before[i]);
            y.wish(0, 1);
            y.pass(1);
            due.same("favour " + before[i] + ", another kind waits", y.count(5), behind[i]);
        }
    }

    /** The dearest one is granted, if the favour is enough for it; nothing is said of a cheaper one in its stead. */
    private static void noGrantOfACheaperOne() {
        WishWell x = Wells.withFavour(54);
        x.addLand(50, 1);
        x.wish(0, 0);
        x.wish(2, 0);
        due.same("favour, 1 less than the dear one's price", x.count(5), 59);
        due.same("none is granted", x.pass(1), 0);
        due.same("favour 2 more", x.count(5), 61);
        due.same("the dear one on the next turn", x.pass(4), 1);
        due.same("the cheap one waits", x.told(x.count(2) - 2, 3), 0);
    }

    /** "An object is used for at most 512 calls": nearly all of them let the dearest coins come for 100 days. */
    private static void mostThatCanCome() {
        WishWell x = Wells.ofLand(50, 9);
        Wells.tideOnAllDays(x, 9);
        for (int i = 0; i < 495; i++) {
            x.pass(100);
        }
        due.same("day", x.count(0), 49500);
        due.same("turn", x.count(6), 0);
        due.same("favour", x.count(5), 500);
        due.same("coins", x.count(7), 9 * 49500);
        due.same("their values", x.count(8), 50 * 9 * 49500);
        int deepest = x.coins(4, 0);
        due.same("audit(4)", x.audit(4), deepest);
        due.same("purse", x.count(9), 50 * deepest);
        due.same("missing(0)", x.missing(0), 0);
    }
}
