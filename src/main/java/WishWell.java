/** Auditors of a wishing well. */
public final class WishWell {
    private static final int LAND_LIMIT = 6;
    private static final int VALUE_LIMIT = 50;
    private static final int WEIGHT_LIMIT = 9;
    private static final int HEAVY = 4;
    private static final int LAYERS = 5;
    private static final int WISH_LIMIT = 24;
    private static final int KINDS = 4;
    private static final int WEEKDAYS = 7;
    private static final int TIDE_LIMIT = 9;
    private static final int FISH_LIMIT = 20;
    private static final int PASS_LIMIT = 100;
    private static final int WAITS_LIMIT = 200;
    private static final int PENCE_LIMIT = 300;
    private static final int FIRST_FAVOUR = 50;
    private static final int FAVOUR_LIMIT = 500;
    private static final int GRANT_PRICE = 10;
    private static final int WITHDRAW_PRICE = 5;
    private static final int IDLE_GAIN = 2;
    private static final int WAITING = 0;
    private static final int GRANTED = 1;
    private static final int WITHDRAWN = 2;
    private static final int NONE = -1;

    private final Well well;
    // What would be is played on a second well, so that the first stays as it is
    // and no call has to make rows.
    private final Well trial;
    private final Row fewest;

    public WishWell() {
        well = new Well();
        trial = new Well();
        fewest = new Row(PENCE_LIMIT + 1);
    }

    // ---- lands and visitors

    public int addLand(int value, int weight) throws IllegalArgumentException, IllegalStateException {
        if (!within(value, 1, VALUE_LIMIT)) {
            throw new IllegalArgumentException("value is not 1 to 50");
        }
        if (!within(weight, 1, WEIGHT_LIMIT)) {
            throw new IllegalArgumentException("weight is not 1 to 9");
        }
        if (well.lands.size >= LAND_LIMIT) {
            throw new IllegalStateException("there are 6 lands");
        }
        return well.lands.tell(value, weight);
    }

    public int setTide(int weekday, int many) throws IndexOutOfBoundsException, IllegalArgumentException {
        if (!within(weekday, 0, WEEKDAYS - 1)) {
            throw new IndexOutOfBoundsException("weekday is not 0 to 6");
        }
        if (!within(many, 0, TIDE_LIMIT)) {
            throw new IllegalArgumentException("many is not 0 to 9");
        }
        int before = well.tide.at(weekday);
        well.tide.put(weekday, many);
        return before;
    }

    public int wish(int land, int kind)
            throws IndexOutOfBoundsException, IllegalArgumentException, IllegalStateException {
        if (!well.lands.has(land)) {
            throw new IndexOutOfBoundsException("there is no such land");
        }
        if (!within(kind, 0, KINDS - 1)) {
            throw new IllegalArgumentException("kind is not 0 to 3");
        }
        if (well.wishes.size >= WISH_LIMIT) {
            throw new IllegalStateException("there are 24 wishes");
        }
        well.throwCoin(land);
        return well.wishes.tell(kind, land, well.day);
    }

    public int withdraw(int wish) throws IndexOutOfBoundsException, IllegalStateException {
        if (!well.wishes.has(wish)) {
            throw new IndexOutOfBoundsException("there is no such wish");
        }
        if (well.wishes.fates.at(wish) != WAITING) {
            throw new IllegalStateException("the wish does not wait");
        }
        return well.withdrawWish(wish);
    }

    // ---- auditors and thieves

    public int fish(int layer, int many) throws IndexOutOfBoundsException, IllegalArgumentException {
        if (!within(layer, 0, LAYERS - 1)) {
            throw new IndexOutOfBoundsException("layer is not 0 to 4");
        }
        if (!within(many, 1, FISH_LIMIT)) {
            throw new IllegalArgumentException("many is not 1 to 20");
        }
        return well.fishCoins(layer, many);
    }

    public int audit(int layer) throws IndexOutOfBoundsException {
        if (!within(layer, 0, LAYERS - 1)) {
            throw new IndexOutOfBoundsException("layer is not 0 to 4");
        }
        return well.auditLayer(layer);
    }

    public int missing(int land) throws IndexOutOfBoundsException {
        if (!well.lands.has(land)) {
            throw new IndexOutOfBoundsException("there is no such land");
        }
        return well.missingCoins(land);
    }

    // ---- what is there

    public int land(int land, int what) throws IndexOutOfBoundsException {
        if (!well.lands.has(land)) {
            throw new IndexOutOfBoundsException("there is no such land");
        }
        if (!within(what, 0, 4)) {
            throw new IndexOutOfBoundsException("what is not 0 to 4");
        }
        return well.landFigure(land, what);
    }

    public int coins(int layer, int land) throws IndexOutOfBoundsException {
        if (!within(layer, 0, LAYERS - 1)) {
            throw new IndexOutOfBoundsException("layer is not 0 to 4");
        }
        if (!well.lands.has(land)) {
            throw new IndexOutOfBoundsException("there is no such land");
        }
        return well.layers.at(layer, land);
    }

    public int told(int wish, int what) throws IndexOutOfBoundsException {
        if (!well.wishes.has(wish)) {
            throw new IndexOutOfBoundsException("there is no such wish");
        }
        if (!within(what, 0, 4)) {
            throw new IndexOutOfBoundsException("what is not 0 to 4");
        }
        return well.wishes.figure(wish, what);
    }

    public int count(int what) throws IndexOutOfBoundsException {
        if (!within(what, 0, 10)) {
            throw new IndexOutOfBoundsException("what is not 0 to 10");
        }
        return well.figure(what);
    }

    // ---- days

    public int pass(int days) throws IllegalArgumentException {
        if (!within(days, 1, PASS_LIMIT)) {
            throw new IllegalArgumentException("days is not 1 to 100");
        }
        return well.liveDays(days);
    }

    // ---- what would be

    public int next(int kind) throws IndexOutOfBoundsException {
        if (!within(kind, 0, KINDS - 1)) {
            throw new IndexOutOfBoundsException("kind is not 0 to 3");
        }
        return well.nextWish(kind);
    }

    public int waits(int wish) throws IndexOutOfBoundsException {
        if (!well.wishes.has(wish)) {
            throw new IndexOutOfBoundsException("there is no such wish");
        }
        int fate = well.wishes.fates.at(wish);
        if (fate == GRANTED) {
            return 0;
        }
        return fate == WITHDRAWN ? NONE : daysTillGranted(wish);
    }

    public int foresee(int days, int what) throws IllegalArgumentException, IndexOutOfBoundsException {
        if (!within(days, 1, PASS_LIMIT)) {
            throw new IllegalArgumentException("days is not 1 to 100");
        }
        if (!within(what, 0, 2)) {
            throw new IndexOutOfBoundsException("what is not 0 to 2");
        }
        trial.takeOver(well);
        trial.liveDays(days);
        if (what == 0) {
            return trial.favour;
        }
        return what == 1 ? trial.layers.coinsIn(LAYERS - 1) : trial.valueOfAll();
    }

    public int richest() {
        int best = NONE;
        int bestValue = 0;
        for (int layer = 0; layer < LAYERS; layer++) {
            int value = well.valueIn(layer);
            if (value > bestValue) {
                best = layer;
                bestValue = value;
            }
        }
        return best;
    }

    public int change(int pence) throws IllegalArgumentException {
        if (!within(pence, 1, PENCE_LIMIT)) {
            throw new IllegalArgumentException("pence is not 1 to 300");
        }
        for (int sum = 1; sum <= pence; sum++) {
            fewest.put(sum, NONE);
        }
        fewest.put(0, 0);
        for (int land = 0; land < well.lands.size; land++) {
            payWithLand(land, pence);
        }
        return fewest.at(pence);
    }

    public double mean() {
        return well.wishes.meanWait();
    }

    public long digest() {
        long d = 821;
        for (int what = 0; what <= 10; what++) {
            d = d * 31 + well.figure(what);
        }
        for (int weekday = 0; weekday < WEEKDAYS; weekday++) {
            d = d * 31 + well.tide.at(weekday);
        }
        return digestWishes(digestLayers(digestLands(d)));
    }

    private long digestLands(long start) {
        long d = start;
        for (int land = 0; land < well.lands.size; land++) {
            for (int what = 0; what <= 4; what++) {
                d = d * 31 + well.landFigure(land, what);
            }
            d = d * 31 + well.missingCoins(land);
        }
        return d;
    }

    private long digestLayers(long start) {
        long d = start;
        for (int layer = 0; layer < LAYERS; layer++) {
            for (int land = 0; land < well.lands.size; land++) {
                d = d * 31 + well.layers.at(layer, land);
            }
        }
        return d;
    }

    private long digestWishes(long start) {
        long d = start;
        for (int wish = 0; wish < well.wishes.size; wish++) {
            for (int what = 0; what <= 4; what++) {
                d = d * 31 + well.wishes.figure(wish, what);
            }
        }
        return d;
    }

    private int daysTillGranted(int wish) {
        trial.takeOver(well);
        for (int days = 1; days <= WAITS_LIMIT; days++) {
            trial.liveDay();
            if (trial.wishes.fates.at(wish) == GRANTED) {
                return days;
            }
        }
        return NONE;
    }

    // Bundles of 1, 2, 4, .. coins and a rest reach every number of coins up to
    // all, with far fewer steps than coin by coin.
    private void payWithLand(int land, int pence) {
        int value = well.lands.values.at(land);
        if (value <= 0) {
            return;
        }
        int left = Math.min(well.layers.coinsOf(land), pence / value);
        for (int size = 1; size <= PENCE_LIMIT && left > 0; size += size) {
            int bundle = Math.min(size, left);
            payWithBundle(bundle, bundle * value, pence);
            left -= bundle;
        }
    }

    // From the greatest sum downwards, so that a bundle is used once at most.
    private void payWithBundle(int bundle, int worth, int pence) {
        for (int sum = pence; sum >= worth; sum--) {
            int rest = fewest.at(sum - worth);
            int before = fewest.at(sum);
            if (rest != NONE && (before == NONE || rest + bundle < before)) {
                fewest.put(sum, rest + bundle);
            }
        }
    }

    private static boolean within(int number, int least, int most) {
        return number >= least && number <= most;
    }

    /** A row of numbers that looks at every index: outside of it there is 0, and nothing can be put. */
    private static final class Row {
        private final int[] cells;

        Row(int length) {
            cells = new int[length < 0 ? 0 : length];
        }

        int at(int index) {
            return index >= 0 && index < cells.length ? cells[index] : 0;
        }

        void put(int index, int number) {
            if (index >= 0 && index < cells.length) {
                cells[index] = number;
            }
        }

        void add(int index, int number) {
            if (index >= 0 && index < cells.length) {
                cells[index] += number;
            }
        }

        void takeOver(Row other) {
            System.arraycopy(other.cells, 0, cells, 0, Math.min(other.cells.length, cells.length));
        }
    }

    /** The lands and what became of their coins, as far as it does not lie in the well. */
    private static final class Lands {
        final Row values = new Row(LAND_LIMIT);
        final Row weights = new Row(LAND_LIMIT);
        final Row thrown = new Row(LAND_LIMIT);
        final Row audited = new Row(LAND_LIMIT);
        final Row takenBack = new Row(LAND_LIMIT);
        int size;

        boolean has(int land) {
            return land >= 0 && land < size;
        }

        int tell(int value, int weight) {
            int land = size;
            values.put(land, value);
            weights.put(land, weight);
            size = land + 1;
            return land;
        }

        void takeOver(Lands other) {
            values.takeOver(other.values);
            weights.takeOver(other.weights);
            thrown.takeOver(other.thrown);
            audited.takeOver(other.audited);
            takenBack.takeOver(other.takenBack);
            size = other.size;
        }
    }

    /** The wishes and their fates. */
    private static final class Wishes {
        final Row kinds = new Row(WISH_LIMIT);
        final Row coinLands = new Row(WISH_LIMIT);
        final Row thrownDays = new Row(WISH_LIMIT);
        final Row fates = new Row(WISH_LIMIT);
        final Row grantDays = new Row(WISH_LIMIT);
        int size;

        boolean has(int wish) {
            return wish >= 0 && wish < size;
        }

        int tell(int kind, int land, int day) {
            int wish = size;
            kinds.put(wish, kind);
            coinLands.put(wish, land);
            thrownDays.put(wish, day);
            fates.put(wish, WAITING);
            grantDays.put(wish, NONE);
            size = wish + 1;
            return wish;
        }

        boolean waitsFor(int wish, int kind) {
            return fates.at(wish) == WAITING && kinds.at(wish) == kind;
        }

        int howMany(int fate) {
            int many = 0;
            for (int wish = 0; wish < size; wish++) {
                if (fates.at(wish) == fate) {
                    many++;
                }
            }
            return many;
        }

        double meanWait() {
            int granted = 0;
            int waited = 0;
            for (int wish = 0; wish < size; wish++) {
                if (fates.at(wish) == GRANTED) {
                    granted++;
                    waited += grantDays.at(wish) - thrownDays.at(wish);
                }
            }
            return granted == 0 ? 0.0 : (double) waited / (double) granted;
        }

        int figure(int wish, int what) {
            switch (what) {
                case 0: return kinds.at(wish);
                case 1: return coinLands.at(wish);
                case 2: return thrownDays.at(wish);
                case 3: return fates.at(wish);
                default: return grantDays.at(wish);
            }
        }

        void takeOver(Wishes other) {
            kinds.takeOver(other.kinds);
            coinLands.takeOver(other.coinLands);
            thrownDays.takeOver(other.thrownDays);
            fates.takeOver(other.fates);
            grantDays.takeOver(other.grantDays);
            size = other.size;
        }
    }

    /** Which coins lie in which layer. */
    private static final class Layers {
        private final Row cells = new Row(LAYERS * LAND_LIMIT);

        int at(int layer, int land) {
            return cells.at(place(layer, land));
        }

        void add(int layer, int land, int many) {
            cells.add(place(layer, land), many);
        }

        int coinsIn(int layer) {
            int many = 0;
            for (int land = 0; land < LAND_LIMIT; land++) {
                many += at(layer, land);
            }
            return many;
        }

        int coinsOf(int land) {
            int many = 0;
            for (int layer = 0; layer < LAYERS; layer++) {
                many += at(layer, land);
            }
            return many;
        }

        int uppermostOf(int land) {
            for (int layer = 0; layer < LAYERS; layer++) {
                if (at(layer, land) > 0) {
                    return layer;
                }
            }
            return NONE;
        }

        void takeOver(Layers other) {
            cells.takeOver(other.cells);
        }

        private static int place(int layer, int land) {
            boolean inside = layer >= 0 && layer < LAYERS && land >= 0 && land < LAND_LIMIT;
            return inside ? layer * LAND_LIMIT + land : NONE;
        }
    }

    /** All that a day changes, and what is done to it between the days. */
    private static final class Well {
        final Lands lands = new Lands();
        final Wishes wishes = new Wishes();
        final Layers layers = new Layers();
        final Row tide = new Row(WEEKDAYS);
        int day;
        int favour = FIRST_FAVOUR;
        private int turn;
        private int purse;
        private int fished;

        void throwCoin(int land) {
            layers.add(0, land, 1);
            lands.thrown.add(land, 1);
            raiseFavour(lands.values.at(land) / 10);
        }

        private void raiseFavour(int more) {
            favour = Math.min(FAVOUR_LIMIT, favour + more);
        }

        int withdrawWish(int wish) {
            int land = wishes.coinLands.at(wish);
            int layer = layers.uppermostOf(land);
            if (layer != NONE) {
                layers.add(layer, land, -1);
                lands.takenBack.add(land, 1);
            }
            wishes.fates.put(wish, WITHDRAWN);
            favour = Math.max(0, favour - WITHDRAW_PRICE);
            return layer;
        }

        int fishCoins(int layer, int many) {
            int taken = 0;
            for (int coin = 0; coin < many; coin++) {
                int land = dearestIn(layer);
                if (land == NONE) {
                    break;
                }
                layers.add(layer, land, -1);
                taken += lands.values.at(land);
            }
            fished += taken;
            return taken;
        }

        private int dearestIn(int layer) {
            int best = NONE;
            int bestValue = 0;
            for (int land = 0; land < lands.size; land++) {
                if (layers.at(layer, land) > 0 && lands.values.at(land) > bestValue) {
                    best = land;
                    bestValue = lands.values.at(land);
                }
            }
            return best;
        }

        int auditLayer(int layer) {
            int many = layers.coinsIn(layer);
            purse += valueIn(layer);
            for (int land = 0; land < lands.size; land++) {
                int lying = layers.at(layer, land);
                layers.add(layer, land, -lying);
                lands.audited.add(land, lying);
            }
            return many;
        }

        int missingCoins(int land) {
            return lands.thrown.at(land) - layers.coinsOf(land)
                    - lands.audited.at(land) - lands.takenBack.at(land);
        }

        int valueIn(int layer) {
            int value = 0;
            for (int land = 0; land < lands.size; land++) {
                value += layers.at(layer, land) * lands.values.at(land);
            }
            return value;
        }

        int valueOfAll() {
            int value = 0;
            for (int layer = 0; layer < LAYERS; layer++) {
                value += valueIn(layer);
            }
            return value;
        }

        private int coinsInAll() {
            int many = 0;
            for (int layer = 0; layer < LAYERS; layer++) {
                many += layers.coinsIn(layer);
            }
            return many;
        }

        int landFigure(int land, int what) {
            switch (what) {
                case 0: return lands.values.at(land);
                case 1: return lands.weights.at(land);
                case 2: return lands.thrown.at(land);
                case 3: return layers.coinsOf(land);
                default: return lands.audited.at(land);
            }
        }

        int figure(int what) {
            switch (what) {
                case 0: return day;
                case 1: return lands.size;
                case 2: return wishes.size;
                case 3: return wishes.howMany(WAITING);
                case 4: return wishes.howMany(GRANTED);
                case 5: return favour;
                case 6: return turn;
                case 7: return coinsInAll();
                case 8: return valueOfAll();
                case 9: return purse;
                default: return fished;
            }
        }

        int nextWish(int kind) {
            int best = NONE;
            int bestValue = 0;
            for (int wish = 0; wish < wishes.size; wish++) {
                int value = coinValue(wish);
                if (wishes.waitsFor(wish, kind) && value > bestValue) {
                    best = wish;
                    bestValue = value;
                }
            }
            return best;
        }

        private int coinValue(int wish) {
            return lands.values.at(wishes.coinLands.at(wish));
        }

        int liveDays(int days) {
            int granted = 0;
            for (int lived = 0; lived < days; lived++) {
                if (liveDay()) {
                    granted++;
                }
            }
            return granted;
        }

        boolean liveDay() {
            receiveVisitors();
            sinkCoins();
            boolean granted = grantNext();
            if (!granted) {
                raiseFavour(IDLE_GAIN);
            }
            turn = (turn + 1) % KINDS;
            day++;
            return granted;
        }

        private void receiveVisitors() {
            if (lands.size <= 0) {
                return;
            }
            int many = tide.at(day % WEEKDAYS);
            for (int visitor = 0; visitor < many; visitor++) {
                throwCoin((day + visitor) % lands.size);
            }
        }

        // From below upwards, so that no coin sinks through two layers on one day.
        private void sinkCoins() {
            for (int layer = LAYERS - 2; layer >= 0; layer--) {
                for (int land = 0; land < lands.size; land++) {
                    int lying = layers.at(layer, land);
                    int sinking = lands.weights.at(land) >= HEAVY ? lying / 2 : lying / 4;
                    layers.add(layer, land, -sinking);
                    layers.add(layer + 1, land, sinking);
                }
            }
        }

        private boolean grantNext() {
            int wish = nextWish(turn);
            if (wish == NONE) {
                return false;
            }
            int price = GRANT_PRICE + coinValue(wish);
            if (favour < price) {
                return false;
            }
            favour -= price;
            wishes.fates.put(wish, GRANTED);
            wishes.grantDays.put(wish, day);
            return true;
        }

        void takeOver(Well other) {
            lands.takeOver(other.lands);
            wishes.takeOver(other.wishes);
            layers.takeOver(other.layers);
            tide.takeOver(other.tide);
            day = other.day;
            favour = other.favour;
            turn = other.turn;
            purse = other.purse;
            fished = other.fished;
        }
    }
}
