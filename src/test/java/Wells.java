/** Wells to begin a test with: each call makes a new one, and the same one. */
final class Wells {
    private static final int[] VALUES = {1, 9, 10, 19, 20, 50};
    private static final int[] WEIGHTS = {1, 3, 4, 5, 8, 9};

    private Wells() {
    }

    /** One land, with the number 0. */
    static WishWell ofLand(int value, int weight) {
        WishWell x = new WishWell();
        x.addLand(value, weight);
        return x;
    }

    static void wishes(WishWell x, int many, int land, int kind) {
        for (int i = 0; i < many; i++) {
            x.wish(land, kind);
        }
    }

    static void passFar(WishWell x, int days) {
        int left = days;
        while (left > 0) {
            int now = Math.min(left, 100);
            x.pass(now);
            left -= now;
        }
    }

    /** The same number of visitors on every weekday. */
    static void tideOnAllDays(WishWell x, int many) {
        for (int weekday = 0; weekday < 7; weekday++) {
            x.setTide(weekday, many);
        }
    }

    /**
     * With just this favour, the turn of the kind 0, no coins, and no wish that waits. The land 0 has
     * coins of 1 and the land 1 coins of 10; some wishes with them are withdrawn.
     */
    static WishWell withFavour(int favour) {
        WishWell x = ofLand(1, 1);
        x.addLand(10, 1);
        // A coin of 1 that is thrown and taken back costs 5 of the favour, one of 10 costs 4; four days bring 8.
        for (int turns = 0; turns < 60; turns++) {
            for (int tens = 0; tens < 5; tens++) {
                int ones = 50 + 8 * turns - favour - 4 * tens;
                if (ones >= 0 && ones % 5 == 0 && ones <= 50) {
                    throwAndTakeBack(x, 1, tens);
                    throwAndTakeBack(x, 0, ones / 5);
                    passFar(x, 4 * turns);
                    return x;
                }
            }
        }
        throw new AssertionError("no way to the favour " + favour);
    }

    private static void throwAndTakeBack(WishWell x, int land, int many) {
        for (int i = 0; i < many; i++) {
            x.withdraw(x.wish(land, 0));
        }
    }

    /** 6 lands, 24 wishes with all fates, coins in all layers, visitors on all weekdays; thieves and auditors were there. */
    static WishWell full() {
        WishWell x = new WishWell();
        for (int land = 0; land < 6; land++) {
            x.addLand(VALUES[land], WEIGHTS[land]);
        }
        for (int weekday = 0; weekday < 7; weekday++) {
            x.setTide(weekday, 9 - weekday);
        }
        for (int wish = 0; wish < 12; wish++) {
            x.wish(wish % 6, wish % 4);
        }
        x.pass(9);
        x.fish(0, 5);
        x.audit(2);
        x.withdraw(11);
        for (int wish = 12; wish < 24; wish++) {
            x.wish(wish % 5, wish % 4);
        }
        x.pass(2);
        x.withdraw(22);
        return x;
    }

    /** With the favour 0, and one wish that waits, one that is granted, and ten that are withdrawn. */
    static WishWell poor() {
        WishWell x = ofLand(1, 9);
        wishes(x, 12, 0, 0);
        x.pass(1);
        for (int wish = 1; wish < 11; wish++) {
            x.withdraw(wish);
        }
        return x;
    }

    /** With the favour 500, the turn of the kind 3, and a coin, but no wish that waits. */
    static WishWell rich() {
        WishWell x = ofLand(50, 4);
        x.addLand(10, 3);
        x.setTide(6, 1);
        passFar(x, 227);
        x.withdraw(x.wish(1, 3));
        passFar(x, 8);
        return x;
    }
}
