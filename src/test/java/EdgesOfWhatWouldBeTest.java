import java.math.BigInteger;

/** Promises 14 to 20: each boundary, on both sides. */
public final class EdgesOfWhatWouldBeTest {
    private static final Due due = new Due("EdgesOfWhatWouldBeTest");

    public static void main(String[] args) {
        kindsFrom0To3AreTaken();
        nextIsNoneWithoutOneThatWaits();
        nextHasTheGreatestValueAndSmallestNumber();
        nextNeedsNeitherTurnNorFavour();
        nextOfTheLastWish();
        waitsOfEachFate();
        waitsTillTheTurn();
        waitsForFavour();
        waitsAtMost200();
        waitsOfLateAndLater();
        waitsIsAsPass();
        firstAndLastDaysAreForeseen();
        foreseenFavourFrom0To500();
        foreseenCoinsOfTheLayer4();
        foreseenValues();
        foreseeIsAsPass();
        richestWithNoCoinAndWithOne();
        richestOfSeveralIsTheUppermost();
        richestByOnePenny();
        penceFrom1To300AreTaken();
        changeWithNoCoinAndWithOne();
        changeOfAllCoinsTogether();
        changeFromAllLayers();
        changeIsTheFewestCoins();
        meanWithoutGrants();
        meanOfGrantOnTheSameDay();
        meanOfSeveralGrants();
        digestStartsWith821();
        digestWrapsAround();
        due.close();
    }

    /** "IndexOutOfBoundsException if kind is not 0 to 3". */
    private static void kindsFrom0To3AreTaken() {
        WishWell x = Wells.ofLand(1, 1);
        for (int kind = 3; kind >= 0; kind--) {
            due.same("next(" + kind + "), none", x.next(kind), -1);
            x.wish(0, kind);
            due.same("next(" + kind + "), one", x.next(kind), 3 - kind);
        }
        due.refused("next(-1)", Due.INDEX, x, () -> x.next(-1));
        due.refused("next(4)", Due.INDEX, x, () -> x.next(4));
    }

    /** "-1 if none waits". */
    private static void nextIsNoneWithoutOneThatWaits() {
        WishWell x = Wells.ofLand(1, 1);
        due.same("next(0), no wish", x.next(0), -1);
        x.wish(0, 0);
        due.same("next(0), one waits", x.next(0), 0);
        due.same("next(1), another kind waits", x.next(1), -1);
        x.pass(1);
        due.same("next(0), one granted", x.next(0), -1);
        x.wish(0, 0);
        due.same("next(0), another one waits", x.next(0), 1);
        x.withdraw(1);
        due.same("next(0), one withdrawn", x.next(0), -1);
    }

    private static void nextHasTheGreatestValueAndSmallestNumber() {
        WishWell x = Wells.ofLand(49, 1);
        x.addLand(50, 1);
        x.addLand(50, 1);
        int[] lands = {0, 2, 1, 0};
        int[] next = {0, 1, 1, 1};
        for (int wish = 0; wish < 4; wish++) {
            x.wish(lands[wish], 2);
            due.same("next(2) of " + (wish + 1), x.next(2), next[wish]);
        }
        int[] left = {2, 0, 3, -1};
        for (int i = 0; i < 4; i++) {
            x.withdraw(x.next(2));
            due.same("next(2) behind " + (i + 1) + " withdrawn", x.next(2), left[i]);
        }
    }

    /** "if it had its turn, and the favour was enough". */
    private static void nextNeedsNeitherTurnNorFavour() {
        WishWell x = Wells.poor();
        due.same("favour", x.count(5), 0);
        due.same("turn", x.count(6), 1);
        due.same("next(0)", x.next(0), 11);
        due.same("next(1)", x.next(1), -1);
        x.addLand(9, 1);
        x.wish(1, 0);
        due.same("next(0), dearer", x.next(0), 12);
    }

    private static void nextOfTheLastWish() {
        WishWell x = Wells.ofLand(1, 1);
        x.addLand(2, 1);
        Wells.wishes(x, 23, 0, 3);
        due.same("next(3), the first", x.next(3), 0);
        x.wish(1, 3);
        due.same("next(3), the last", x.next(3), 23);
    }

    /** "0 if it is, ..; -1 .., or it is withdrawn". */
    private static void waitsOfEachFate() {
        WishWell x = Wells.ofLand(1, 1);
        due.refused("waits(0), no wish", Due.INDEX, x, () -> x.waits(0));
        Wells.wishes(x, 3, 0, 0);
        due.same("waits(0), by the next day", x.waits(0), 1);
        x.pass(1);
        due.same("waits(0), granted", x.waits(0), 0);
        due.same("waits(1)", x.waits(1), 4);
        x.withdraw(1);
        due.same("waits(1), withdrawn", x.waits(1), -1);
        due.same("waits(2), the next one then", x.waits(2), 4);
        x.pass(3);
        due.same("waits(2), by the next day", x.waits(2), 1);
        x.pass(1);
        due.same("waits(2), granted", x.waits(2), 0);
        due.same("waits(0), granted before", x.waits(0), 0);
        due.same("waits(1), still withdrawn", x.waits(1), -1);
        due.refused("waits(-1)", Due.INDEX, x, () -> x.waits(-1));
        due.refused("waits(3)", Due.INDEX, x, () -> x.waits(3));
    }

    /** The turn comes round again: a kind that has just had it waits for four days. */
    private static void waitsTillTheTurn() {
        for (int day = 0; day <= 4; day++) {
            WishWell x = Wells.ofLand(1, 1);
            Wells.passFar(x, day);
            for (int kind = 0; kind <= 3; kind++) {
                x.wish(0, kind);
            }
            int[] days = {1, 2, 3, 4};
            for (int kind = 0; kind <= 3; kind++) {
                due.same("waits for the kind " + kind + " on the day " + day, x.waits(kind), days[(kind - day % 4 + 4) % 4]);
            }
        }
    }

    private static void waitsForFavour() {
        int[] favour = {11, 10, 5, 4, 3, 2, 0};
        int[] days = {1, 5, 5, 5, 5, 9, 9};
        for (int i = 0; i < favour.length; i++) {
            WishWell x = Wells.withFavour(favour[i]);
            int wish = x.wish(0, 0);
            due.same("waits with the favour " + favour[i], x.waits(wish), days[i]);
        }
    }

    /** 16 wishes of one kind with coins of 50; each costs 60 of the favour. */
    private static WishWell slowWell(int before) {
        WishWell x = Wells.ofLand(50, 1);
        Wells.passFar(x, before);
        Wells.wishes(x, 16, 0, 0);
        return x;
    }

    /** "at most 200; -1 if not by then": from day to day, till the wish is granted. */
    private static void waitsAtMost200() {
        WishWell x = slowWell(0);
        // 130 of favour; then 8 more in four days, and 2 less on the day of a grant.
        int[] granted = {0, 4, 28, 60, 92, 120, 152, 184, 216, 244};
        for (int wish = 0; wish < 10; wish++) {
            due.same("waits(" + wish + ")", x.waits(wish), granted[wish] < 200 ? granted[wish] + 1 : -1);
        }
        x.pass(16);
        due.same("waits(8), 201 days before", x.waits(8), -1);
        x.pass(1);
        due.same("waits(8), 200 days before", x.waits(8), 200);
        x.pass(1);
        due.same("waits(8), 199 days before", x.waits(8), 199);
        Wells.passFar(x, 198);
        due.same("waits(8), 1 day before", x.waits(8), 1);
        due.same("told(8, 3), 1 day before", x.told(8, 3), 0);
        x.pass(1);
        due.same("waits(8), granted", x.waits(8), 0);
        due.same("told(8, 4), granted", x.told(8, 4), 216);
    }

    /** The same favour and the same wishes on a later day of the same turn: the same answers. */
    private static void waitsOfLateAndLater() {
        WishWell late = slowWell(400);
        WishWell later = slowWell(1000);
        due.same("favour", late.count(5), 500);
        for (int wish = 0; wish < 16; wish++) {
            due.same("waits(" + wish + "), later", later.waits(wish), late.waits(wish));
        }
        due.same("waits(0), later", later.waits(0), 1);
        due.same("waits(1), later", later.waits(1), 5);
    }

    /** "behind how many days it is granted, if nothing is done": day by day, till all of them are told. */
    private static void waitsIsAsPass() {
        waitsIsAsPass("full", Wells.full(), Wells.full());
        waitsIsAsPass("rich", dearWishes(Wells.rich()), dearWishes(Wells.rich()));
        waitsIsAsPass("at the greatest favour", dearWishes(Wells.withFavour(500)), dearWishes(Wells.withFavour(500)));
    }

    /** 12 more wishes of the kind 2 with coins of 50: behind the first turns the well has spent its favour. */
    private static WishWell dearWishes(WishWell x) {
        int land = x.addLand(50, 1);
        Wells.wishes(x, 12, land, 2);
        return x;
    }

    private static void waitsIsAsPass(String name, WishWell asked, WishWell passed) {
        int wishes = passed.count(2);
        int[] want = new int[wishes];
        for (int wish = 0; wish < wishes; wish++) {
            want[wish] = passed.told(wish, 3) == 1 ? 0 : -1;
        }
        int today = passed.count(0);
        passed.pass(100);
        passed.pass(100);
        for (int wish = 0; wish < wishes; wish++) {
            if (want[wish] == -1 && passed.told(wish, 3) == 1) {
                want[wish] = passed.told(wish, 4) - today + 1;
            }
            due.same(name + ": waits(" + wish + ")", asked.waits(wish), want[wish]);
        }
    }

    /** "days: how many, 1 to 100"; "what: 0 .., 1 .., 2 ..". */
    private static void firstAndLastDaysAreForeseen() {
        WishWell x = Wells.ofLand(1, 1);
        due.same("foresee(1, 0)", x.foresee(1, 0), 52);
        due.same("foresee(2, 0)", x.foresee(2, 0), 54);
        due.same("foresee(99, 0)", x.foresee(99, 0), 248);
        due.same("foresee(100, 0)", x.foresee(100, 0), 250);
        due.refused("foresee(0, 0)", Due.ARGUMENT, x, () -> x.foresee(0, 0));
        due.refused("foresee(101, 0)", Due.ARGUMENT, x, () -> x.foresee(101, 0));
        due.refused("foresee(1, -1)", Due.INDEX, x, () -> x.foresee(1, -1));
        due.refused("foresee(1, 3)", Due.INDEX, x, () -> x.foresee(1, 3));
        due.refused("foresee(0, 3)", Due.ARGUMENT, x, () -> x.foresee(0, 3));
        due.refused("foresee(101, -1)", Due.ARGUMENT, x, () -> x.foresee(101, -1));
    }

    private static void foreseenFavourFrom0To500() {
        WishWell rich = Wells.withFavour(497);
        int[] favour = {499, 500, 500};
        for (int days = 1; days <= 3; days++) {
            due.same("foresee(" + days + ", 0) of a rich well", rich.foresee(days, 0), favour[days - 1]);
        }
        due.same("foresee(100, 0) of a rich well", rich.foresee(100, 0), 500);
        WishWell poor = Wells.withFavour(11);
        poor.wish(0, 0);
        due.same("foresee(1, 0) of a poor well", poor.foresee(1, 0), 0);
        due.same("foresee(2, 0) of a poor well", poor.foresee(2, 0), 2);
        due.same("favour now", poor.count(5), 11);
    }

    private static void foreseenCoinsOfTheLayer4() {
        WishWell x = Wells.ofLand(3, 4);
        x.addLand(5, 4);
        due.same("foresee(100, 1) with no coin", x.foresee(100, 1), 0);
        Wells.wishes(x, 16, 0, 3);
        int[] sunk = {0, 0, 0, 1, 3, 5, 7, 9, 11, 12, 12};
        for (int days = 1; days <= sunk.length; days++) {
            due.same("foresee(" + days + ", 1)", x.foresee(days, 1), sunk[days - 1]);
        }
        x.wish(1, 3);
        x.wish(1, 3);
        due.same("foresee(100, 1), a pair does not sink so deep", x.foresee(100, 1), 12);
        due.same("coins(4, 0) now", x.coins(4, 0), 0);
    }

    private static void foreseenValues() {
        WishWell x = Wells.ofLand(50, 4);
        due.same("foresee(100, 2) with no coin", x.foresee(100, 2), 0);
        x.wish(0, 3);
        due.same("foresee(100, 2) with one coin", x.foresee(100, 2), 50);
        x.setTide(6, 2);
        due.same("foresee(6, 2), before the visitors", x.foresee(6, 2), 50);
        due.same("foresee(7, 2), behind them", x.foresee(7, 2), 150);
        due.same("foresee(100, 2), behind them all", x.foresee(100, 2), 50 + 14 * 100);
        due.same("value now", x.count(8), 50);
    }

    private static void foreseeIsAsPass() {
        for (int days = 1; days <= 100; days += 11) {
            WishWell x = Wells.full();
            WishWell y = Wells.full();
            y.pass(days);
            int deepest = 0;
            for (int land = 0; land < 6; land++) {
                deepest += y.coins(4, land);
            }
            due.same("foresee(" + days + ", 0) of a full well", x.foresee(days, 0), y.count(5));
            due.same("foresee(" + days + ", 1) of a full well", x.foresee(days, 1), deepest);
            due.same("foresee(" + days + ", 2) of a full well", x.foresee(days, 2), y.count(8));
        }
    }

    /** "-1 if there are no coins": a single coin of 1 in any layer is enough. */
    private static void richestWithNoCoinAndWithOne() {
        due.same("richest() without lands", new WishWell().richest(), -1);
        due.same("richest() without coins", Wells.ofLand(1, 1).richest(), -1);
        for (int only = 0; only <= 4; only++) {
            WishWell x = Wells.ofLand(1, 9);
            Wells.wishes(x, 16, 0, 3);
            x.pass(4);
            for (int layer = 0; layer <= 4; layer++) {
                if (layer != only) {
                    x.audit(layer);
                }
            }
            if (x.coins(only, 0) > 1) {
                x.fish(only, x.coins(only, 0) - 1);
            }
            due.same("coins in the well", x.count(7), 1);
            due.same("richest(), one coin in the layer " + only, x.richest(), only);
            x.fish(only, 1);
            due.same("richest(), none left in the layer " + only, x.richest(), -1);
        }
    }

    /** "of several the uppermost". */
    private static void richestOfSeveralIsTheUppermost() {
        WishWell x = Wells.ofLand(1, 9);
        Wells.wishes(x, 16, 0, 3);
        x.pass(4);
        // 1, 4, 6, 4, 1.
        due.same("richest(), the layer 2 with 6", x.richest(), 2);
        x.fish(2, 2);
        due.same("richest(), three layers with 4", x.richest(), 1);
        x.fish(1, 1);
        due.same("richest(), two layers with 4", x.richest(), 2);
        x.fish(2, 1);
        due.same("richest(), the layer 3 with 4", x.richest(), 3);
        x.audit(1);
        x.audit(2);
        x.audit(3);
        due.same("richest(), the first and the last with 1", x.richest(), 0);
        x.audit(0);
        due.same("richest(), the last with 1", x.richest(), 4);
        x.audit(4);
        due.same("richest(), none", x.richest(), -1);
    }

    /** "the greatest value of its coins, added": 1 more in a lower layer, of fewer coins, is enough. */
    private static void richestByOnePenny() {
        WishWell x = Wells.ofLand(50, 9);
        x.addLand(9, 1);
        x.addLand(1, 1);
        Wells.wishes(x, 2, 0, 3);
        x.pass(1);
        x.fish(0, 1);
        Wells.wishes(x, 5, 1, 3);
        Wells.wishes(x, 4, 2, 3);
        due.same("richest(), 49 above 50", x.richest(), 1);
        x.wish(2, 3);
        due.same("richest(), 50 above 50", x.richest(), 0);
        x.wish(2, 3);
        due.same("richest(), 51 above 50", x.richest(), 0);
    }

    /** "IllegalArgumentException if pence is not 1 to 300". */
    private static void penceFrom1To300AreTaken() {
        WishWell x = Wells.ofLand(1, 1);
        x.addLand(50, 1);
        x.wish(0, 3);
        Wells.wishes(x, 5, 1, 3);
        due.same("change(1)", x.change(1), 1);
        due.same("change(2)", x.change(2), -1);
        due.same("change(300), 251 are there", x.change(300), -1);
        x.wish(1, 3);
        due.same("change(300), 301 are there", x.change(300), 6);
        due.same("change(299)", x.change(299), -1);
        due.refused("change(0)", Due.ARGUMENT, x, () -> x.change(0));
        due.refused("change(301), though they are there", Due.ARGUMENT, x, () -> x.change(301));
    }

    /** "-1 if no coins have just this value together". */
    private static void changeWithNoCoinAndWithOne() {
        WishWell x = Wells.ofLand(7, 1);
        int[] pence = {1, 6, 7, 8, 14, 300};
        for (int sum : pence) {
            due.same("change(" + sum + ") without lands", new WishWell().change(sum), -1);
            due.same("change(" + sum + ") with no coin", x.change(sum), -1);
        }
        x.wish(0, 3);
        for (int sum : pence) {
            due.same("change(" + sum + ") with one coin of 7", x.change(sum), sum == 7 ? 1 : -1);
        }
        x.wish(0, 3);
        for (int sum : pence) {
            due.same("change(" + sum + ") with two coins of 7", x.change(sum), sum == 7 ? 1 : sum == 14 ? 2 : -1);
        }
        x.audit(0);
        due.same("change(7), all audited", x.change(7), -1);
    }

    /** All coins that there are, and one more than there are, of each number of coins up to 24. */
    private static void changeOfAllCoinsTogether() {
        WishWell x = Wells.ofLand(4, 1);
        for (int many = 1; many <= 24; many++) {
            x.wish(0, 3);
            due.same("change of all " + many, x.change(4 * many), many);
            due.same("change of one more than " + many, x.change(4 * many + 4), -1);
            due.same("change of 1 less than all " + many, x.change(4 * many - 1), -1);
            due.same("change of one coin of " + many, x.change(4), 1);
        }
    }

    /** "of those in the well": one coin from each layer. */
    private static void changeFromAllLayers() {
        WishWell x = Wells.ofLand(11, 9);
        Wells.wishes(x, 16, 0, 3);
        x.pass(4);
        int[] lying = {1, 4, 6, 4, 1};
        due.same("change of all 16", x.change(11 * 16), 16);
        int left = 16;
        for (int layer = 4; layer >= 0; layer--) {
            x.audit(layer);
            left -= lying[layer];
            if (left > 0) {
                due.same("change of all " + left, x.change(11 * left), left);
            }
            due.same("change of one more than " + left, x.change(11 * left + 11), -1);
        }
    }

    /** "what the fewest coins are": neither the dearest first nor the cheapest first is it. */
    private static void changeIsTheFewestCoins() {
        WishWell x = Wells.ofLand(25, 1);
        x.addLand(20, 1);
        x.addLand(1, 1);
        x.wish(0, 3);
        Wells.wishes(x, 2, 1, 3);
        Wells.wishes(x, 15, 2, 3);
        due.same("change(40), two of 20", x.change(40), 2);
        due.same("change(45)", x.change(45), 2);
        due.same("change(41)", x.change(41), 3);
        due.same("change(26)", x.change(26), 2);
        due.same("change(15)", x.change(15), 15);
        due.same("change(16), too few of 1", x.change(16), -1);
        due.same("change(35)", x.change(35), 11);
        due.same("change(80), all but none", x.change(80), 18);
        due.same("change(81)", x.change(81), -1);
        x.withdraw(2);
        due.same("change(40), one of 20 alone", x.change(40), 16);
        due.same("change(19)", x.change(19), -1);
    }

    /** "0 if none is": without wishes, with one that waits, with one that is withdrawn. */
    private static void meanWithoutGrants() {
        WishWell x = Wells.ofLand(1, 1);
        due.same("mean() without wishes", x.mean(), 0.0);
        x.wish(0, 3);
        x.pass(3);
        due.same("mean(), one waits", x.mean(), 0.0);
        x.withdraw(0);
        x.pass(10);
        due.same("mean(), one withdrawn", x.mean(), 0.0);
        due.same("mean() of a new well", new WishWell().mean(), 0.0);
    }

    private static void meanOfGrantOnTheSameDay() {
        WishWell x = Wells.ofLand(1, 1);
        x.wish(0, 0);
        x.pass(1);
        due.same("mean(), granted on its day", x.mean(), 0.0);
        due.same("count(4)", x.count(4), 1);
        x.wish(0, 0);
        x.pass(4);
        due.same("mean(), the other had waited for 3 days", x.mean(), 1.5);
    }

    private static void meanOfSeveralGrants() {
        WishWell x = Wells.ofLand(1, 1);
        x.wish(0, 1);
        x.wish(0, 2);
        x.wish(0, 2);
        x.wish(0, 3);
        x.pass(2);
        due.same("mean(), behind 1 day", x.mean(), 1.0);
        x.pass(1);
        due.same("mean(), behind 1 and 2", x.mean(), 1.5);
        x.pass(1);
        due.same("mean(), behind 1, 2 and 3", x.mean(), 2.0);
        x.pass(3);
        due.same("mean(), behind 1, 2, 3 and 6", x.mean(), 3.0);
        x.wish(0, 3);
        x.pass(1);
        due.same("mean(), with one of the same day", x.mean(), 12 / 5.0);
    }

    /** "A number d starts with 821; .. d becomes d * 31 + x". */
    private static void digestStartsWith821() {
        BigInteger d = BigInteger.valueOf(821);
        // What count() tells of a new well, and seven weekdays without visitors.
        int[] told = {0, 0, 0, 0, 0, 50, 0, 0, 0, 0, 0, 0, 0, 0, 0, 0, 0, 0};
        for (int x : told) {
            d = d.multiply(BigInteger.valueOf(31)).add(BigInteger.valueOf(x));
        }
        due.same("digest() of a new well", new WishWell().digest(), d.longValue());
        due.same("it is wrapped", d.bitLength() > 64 ? 1 : 0, 1);
        due.same("digest() as the tests reckon it", Seen.digestOf(new WishWell()), d.longValue());
    }

    /** "which wraps around as a 64-bit integer": reckoned with numbers of any length, cut at the end. */
    private static void digestWrapsAround() {
        due.same("digest() of a full well", Wells.full().digest(), Seen.digestOf(Wells.full()));
        due.same("digest() of a poor well", Wells.poor().digest(), Seen.digestOf(Wells.poor()));
        due.same("digest() of a rich well", Wells.rich().digest(), Seen.digestOf(Wells.rich()));
        WishWell landsAlone = Wells.ofLand(50, 9);
        due.same("digest() of a well without wishes", landsAlone.digest(), Seen.digestOf(Wells.ofLand(50, 9)));
        due.same("digest() asked again", landsAlone.digest(), Seen.digestOf(Wells.ofLand(50, 9)));
    }
}
