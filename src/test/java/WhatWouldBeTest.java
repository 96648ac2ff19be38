/** Promises 14 to 20: next, waits, foresee, richest, change, mean, digest. */
public final class WhatWouldBeTest {
    private static final Due due = new Due("WhatWouldBeTest");
    private static final int[] WRONG_DAYS = {0, 101, -1, Integer.MIN_VALUE, Integer.MAX_VALUE};

    public static void main(String[] args) {
        nextWish();
        nextRefusals();
        waitsTells();
        waitsLimit();
        waitsRefusals();
        foreseeTellsWhatPassBrings();
        foreseeRefusals();
        lookingAheadChangesNothing();
        richestLayer();
        changeFewestCoins();
        changeDearLandFirst();
        changeBoundedByCoins();
        changeLimits();
        changeRefusals();
        meanDays();
        digestOfAll();
        due.close();
    }

    private static void nextWish() {
        WishWell x = new WishWell();
        x.addLand(5, 1);
        x.addLand(50, 1);
        x.addLand(50, 1);
        due.same("next(0), none", x.next(0), -1);
        x.wish(0, 0);
        x.wish(2, 0);
        x.wish(1, 0);
        x.wish(0, 2);
        due.same("next(0), the smallest of several", x.next(0), 1);
        due.same("next(1)", x.next(1), -1);
        due.same("next(2), not its turn", x.next(2), 3);
        due.same("next(3)", x.next(3), -1);
        due.same("pass(1)", x.pass(1), 1);
        due.same("next(0), 1 granted", x.next(0), 2);
        due.same("too little favour for it", x.count(5), 0);
        x.withdraw(2);
        due.same("next(0), 2 withdrawn", x.next(0), 0);
        x.withdraw(0);
        due.same("next(0), none left", x.next(0), -1);
        x.fish(0, 20);
        due.same("next(2), its coin fished", x.next(2), 3);
    }

    private static void nextRefusals() {
        WishWell x = new WishWell();
        x.addLand(5, 1);
        x.wish(0, 0);
        int[] wrong = {-1, 4, Integer.MIN_VALUE, Integer.MAX_VALUE};
        for (int kind : wrong) {
            due.refused("next(" + kind + ")", Due.INDEX, x, () -> x.next(kind));
        }
    }

    private static void waitsTells() {
        WishWell x = new WishWell();
        x.addLand(10, 1);
        for (int i = 0; i < 5; i++) {
            x.wish(0, i % 4);
        }
        // Each costs 20 of the favour: 55, 35, 15; then 21 on the day 6, 21 on the day 16, and 21 on the day 27.
        int[] want = {1, 2, 7, 28, 17};
        for (int wish = 0; wish < 5; wish++) {
            due.same("waits(" + wish + ")", x.waits(wish), want[wish]);
        }
        x.pass(1);
        due.same("waits(0), granted", x.waits(0), 0);
        due.same("waits(1), a day later", x.waits(1), 1);
        due.same("waits(3), a day later", x.waits(3), 27);
        x.withdraw(4);
        due.same("waits(4), withdrawn", x.waits(4), -1);
        x.pass(27);
        due.same("waits(3), granted", x.waits(3), 0);
        due.same("waits(4), withdrawn long ago", x.waits(4), -1);
    }

    /** So many dear wishes that the last ones are granted far behind 200 days. */
    private static void waitsLimit() {
        WishWell x = new WishWell();
        x.addLand(50, 1);
        for (int i = 0; i < 12; i++) {
            x.wish(0, i % 4);
        }
        int last = 0;
        for (int wish = 1; wish < 12; wish++) {
            int waits = x.waits(wish);
            if (waits == -1) {
                last = wish;
            }
        }
        due.same("one wish waits for more than 200 days", x.waits(last), -1);
        int passed = 0;
        while (x.waits(last) == -1 && passed < 200) {
            x.pass(1);
            passed++;
        }
        due.same("waits, the first that is told", x.waits(last), 200);
        x.pass(1);
        due.same("waits, a day later", x.waits(last), 199);
        x.pass(100);
        x.pass(98);
        due.same("waits, the day before", x.waits(last), 1);
        due.same("told, the day before", x.told(last, 3), 0);
        x.pass(1);
        due.same("waits, granted", x.waits(last), 0);
        due.same("told, the day of it", x.told(last, 4), passed + 199);
    }

    private static void waitsRefusals() {
        WishWell x = new WishWell();
        due.refused("waits(0) without wishes", Due.INDEX, x, () -> x.waits(0));
        x.addLand(10, 1);
        x.wish(0, 0);
        int[] wrong = {-1, 1, 24, Integer.MIN_VALUE, Integer.MAX_VALUE};
        for (int wish : wrong) {
            due.refused("waits(" + wish + ")", Due.INDEX, x, () -> x.waits(wish));
        }
    }

    private static WishWell tidalWell() {
        WishWell x = new WishWell();
        x.addLand(12, 2);
        x.addLand(31, 7);
        x.addLand(1, 4);
        for (int weekday = 0; weekday < 7; weekday++) {
            x.setTide(weekday, weekday == 3 ? 0 : weekday + 1);
        }
        for (int i = 0; i < 9; i++) {
            x.wish(i % 3, i % 4);
        }
        x.fish(0, 1);
        x.pass(5);
        x.audit(1);
        x.withdraw(8);
        return x;
    }

    private static int valueInWell(WishWell x) {
        int value = 0;
        for (int land = 0; land < x.count(1); land++) {
            value += x.land(land, 0) * x.land(land, 3);
        }
        return value;
    }

    private static int coinsInLayer(WishWell x, int layer) {
        int many = 0;
        for (int land = 0; land < x.count(1); land++) {
            many += x.coins(layer, land);
        }
        return many;
    }

    private static void foreseeTellsWhatPassBrings() {
        WishWell x = tidalWell();
        int[] days = {1, 2, 3, 10, 50, 99, 100};
        for (int many : days) {
            WishWell y = tidalWell();
            y.pass(many);
            due.same("foresee(" + many + ", 0)", x.foresee(many, 0), y.count(5));
            due.same("foresee(" + many + ", 1)", x.foresee(many, 1), coinsInLayer(y, 4));
            due.same("foresee(" + many + ", 2)", x.foresee(many, 2), valueInWell(y));
        }
        WishWell empty = new WishWell();
        due.same("foresee(100, 0) of a new well", empty.foresee(100, 0), 250);
        due.same("foresee(100, 1) of a new well", empty.foresee(100, 1), 0);
        due.same("foresee(100, 2) of a new well", empty.foresee(100, 2), 0);
    }

    private static void foreseeRefusals() {
        WishWell x = tidalWell();
        for (int days : WRONG_DAYS) {
            due.refused("foresee(" + days + ", 0)", Due.ARGUMENT, x, () -> x.foresee(days, 0));
            due.refused("foresee(" + days + ", 3)", Due.ARGUMENT, x, () -> x.foresee(days, 3));
        }
        int[] wrong = {-1, 3, Integer.MIN_VALUE, Integer.MAX_VALUE};
        for (int what : wrong) {
            due.refused("foresee(1, " + what + ")", Due.INDEX, x, () -> x.foresee(1, what));
            due.refused("foresee(100, " + what + ")", Due.INDEX, x, () -> x.foresee(100, what));
        }
    }

    private static void lookingAheadChangesNothing() {
        WishWell x = tidalWell();
        WishWell y = tidalWell();
        for (int wish = 0; wish < 9; wish++) {
            x.waits(wish);
        }
        x.foresee(100, 0);
        x.foresee(37, 2);
        x.richest();
        x.change(40);
        x.next(2);
        x.mean();
        due.same("digest() behind looks ahead", x.digest(), y.digest());
        x.pass(20);
        y.pass(20);
        due.same("digest() 20 days later", x.digest(), y.digest());
        due.same("foresee again", x.foresee(3, 2), y.foresee(3, 2));
    }

    private static void richestLayer() {
        WishWell x = new WishWell();
        due.same("richest() without coins", x.richest(), -1);
        x.addLand(9, 4);
        x.addLand(1, 1);
        due.same("richest() without coins, with lands", x.richest(), -1);
        for (int i = 0; i < 2; i++) {
            x.wish(0, 3);
        }
        due.same("richest()", x.richest(), 0);
        x.pass(1);
        due.same("richest(), of two the uppermost", x.richest(), 0);
        x.fish(0, 1);
        due.same("richest(), the lower one", x.richest(), 1);
        for (int i = 0; i < 8; i++) {
            x.wish(1, 3);
        }
        due.same("richest(), by value and not by number", x.richest(), 1);
        x.wish(1, 3);
        due.same("richest(), as much above", x.richest(), 0);
        x.audit(0);
        x.audit(1);
        due.same("richest(), all emptied", x.richest(), -1);
        deepestIsRichest();
    }

    private static void deepestIsRichest() {
        WishWell x = new WishWell();
        x.addLand(1, 9);
        for (int i = 0; i < 16; i++) {
            x.wish(0, 3);
        }
        x.pass(4);
        due.same("richest() in the middle", x.richest(), 2);
        for (int layer = 0; layer < 4; layer++) {
            x.audit(layer);
        }
        due.same("richest() at the bottom", x.richest(), 4);
    }

    private static void changeFewestCoins() {
        WishWell x = new WishWell();
        x.addLand(1, 9);
        x.addLand(7, 9);
        x.addLand(10, 9);
        for (int i = 0; i < 8; i++) {
            x.wish(i < 5 ? 0 : 1, 3);
        }
        x.wish(2, 3);
        int[] pence = {1, 5, 6, 7, 10, 11, 14, 15, 17, 21, 24, 31, 36, 37};
        int[] want = {1, 5, -1, 1, 1, 2, 2, 3, 2, 3, 3, 4, 9, -1};
        for (int i = 0; i < pence.length; i++) {
            due.same("change(" + pence[i] + ")", x.change(pence[i]), want[i]);
        }
        x.pass(3);
        for (int i = 0; i < pence.length; i++) {
            due.same("change(" + pence[i] + ") from several layers", x.change(pence[i]), want[i]);
        }
        due.same("coins have sunk", x.coins(0, 0) < 5 ? 1 : 0, 1);
    }

    private static void changeDearLandFirst() {
        WishWell x = new WishWell();
        x.addLand(10, 9);
        x.addLand(5, 9);
        x.addLand(1, 9);
        for (int i = 0; i < 2; i++) {
            x.wish(0, 3);
            x.wish(1, 3);
        }
        for (int i = 0; i < 12; i++) {
            x.wish(2, 3);
        }
        int[] pence = {5, 10, 12, 15, 20, 25, 30, 42, 43};
        int[] want = {1, 1, 3, 2, 2, 3, 4, 16, -1};
        for (int i = 0; i < pence.length; i++) {
            due.same("change(" + pence[i] + "), dear lands first", x.change(pence[i]), want[i]);
        }
    }

    private static void changeBoundedByCoins() {
        WishWell x = new WishWell();
        x.addLand(7, 9);
        x.addLand(10, 9);
        x.addLand(1, 9);
        x.wish(0, 3);
        x.wish(0, 3);
        x.wish(1, 3);
        for (int i = 0; i < 4; i++) {
            x.wish(2, 3);
        }
        due.same("change(14), two coins of 7", x.change(14), 2);
        x.withdraw(0);
        due.same("change(14), one coin of 7", x.change(14), 5);
        x.withdraw(3);
        due.same("change(14), three coins of 1", x.change(14), -1);
        due.same("change(13)", x.change(13), 4);
        x.fish(0, 1);
        due.same("change(13), the 10 fished", x.change(13), -1);
        due.same("change(10)", x.change(10), 4);
        x.audit(0);
        due.same("change(10), all audited", x.change(10), -1);
    }

    private static void changeLimits() {
        WishWell x = new WishWell();
        x.addLand(50, 1);
        for (int i = 0; i < 6; i++) {
            due.same("change(300) with " + i + " coins", x.change(300), -1);
            x.wish(0, 3);
        }
        due.same("change(300) with 6 coins", x.change(300), 6);
        due.same("change(299)", x.change(299), -1);
        due.same("change(250)", x.change(250), 5);
        WishWell y = new WishWell();
        y.addLand(1, 1);
        for (int weekday = 0; weekday < 7; weekday++) {
            y.setTide(weekday, 9);
        }
        y.pass(33);
        due.same("change(297) in coins of 1", y.change(297), 297);
        due.same("change(298) in coins of 1", y.change(298), -1);
        y.pass(1);
        due.same("change(300) in coins of 1", y.change(300), 300);
        for (int pence = 1; pence <= 300; pence += 13) {
            due.same("change(" + pence + ") in coins of 1", y.change(pence), pence);
        }
    }

    private static void changeRefusals() {
        WishWell x = tidalWell();
        int[] wrong = {0, 301, -1, Integer.MIN_VALUE, Integer.MAX_VALUE};
        for (int pence : wrong) {
            due.refused("change(" + pence + ")", Due.ARGUMENT, x, () -> x.change(pence));
        }
    }

    private static void meanDays() {
        WishWell x = new WishWell();
        x.addLand(1, 1);
        due.same("mean(), none granted", x.mean(), 0.0);
        x.wish(0, 2);
        x.wish(0, 3);
        due.same("mean(), none granted yet", x.mean(), 0.0);
        x.pass(3);
        due.same("mean(), one on the day 2", x.mean(), 2.0);
        x.pass(1);
        due.same("mean(), another on the day 3", x.mean(), 2.5);
        x.wish(0, 0);
        x.wish(0, 1);
        x.pass(1);
        due.same("mean(), one on the day that it was thrown", x.mean(), 5 / 3.0);
        x.withdraw(3);
        due.same("mean(), one withdrawn", x.mean(), 5 / 3.0);
    }

    private static void digestOfAll() {
        due.same("digest() of a new well", new WishWell().digest(), Seen.digestOf(new WishWell()));
        WishWell x = tidalWell();
        int[] tide = {1, 2, 3, 0, 5, 6, 7};
        for (int weekday = 0; weekday < 7; weekday++) {
            due.same("tide as before", x.setTide(weekday, tide[weekday]), tide[weekday]);
        }
        due.same("digest()", x.digest(), Seen.digestOf(x));
        x.pass(100);
        due.same("digest() 100 days later", x.digest(), Seen.digestOf(x));
    }
}
