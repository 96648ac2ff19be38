import java.util.ArrayList;
import java.util.List;

/**
 * The document once more, as literally as it can be written: every coin is an object of its own.
 * It is slow, and shares nothing with the program but the document.
 */
final class PlainWell {
    private static final class Land {
        int value;
        int weight;
    }

    private static final class Coin {
        int land;
        // 0 to 4 in the well, else one of the following.
        int place;
    }

    private static final class Wish {
        int kind;
        int land;
        int thrown;
        int state;
        int granted = -1;
    }

    private static final int AUDITED = 10;
    private static final int TAKEN_BACK = 11;
    private static final int FISHED = 12;

    private final List<Land> lands = new ArrayList<>();
    private final List<Coin> coins = new ArrayList<>();
    private final List<Wish> wishes = new ArrayList<>();
    private final int[] tide = new int[7];
    private int day;
    private int turn;
    private int favour = 50;

    private static void index(boolean right) {
        if (!right) {
            throw new IndexOutOfBoundsException();
        }
    }

    private static void argument(boolean right) {
        if (!right) {
            throw new IllegalArgumentException();
        }
    }

    private static void state(boolean right) {
        if (!right) {
            throw new IllegalStateException();
        }
    }

    private PlainWell copy() {
        PlainWell copy = new PlainWell();
        copy.lands.addAll(lands);
        for (Coin coin : coins) {
            copy.addCoin(coin.land, coin.place);
        }
        for (Wish wish : wishes) {
            Wish other = new Wish();
            other.kind = wish.kind;
            other.land = wish.land;
            other.thrown = wish.thrown;
            other.state = wish.state;
            other.granted = wish.granted;
            copy.wishes.add(other);
        }
        System.arraycopy(tide, 0, copy.tide, 0, 7);
        copy.day = day;
        copy.turn = turn;
        copy.favour = favour;
        return copy;
    }

    private void addCoin(int land, int place) {
        Coin coin = new Coin();
        coin.land = land;
        coin.place = place;
        coins.add(coin);
    }

    private int value(int land) {
        return lands.get(land).value;
    }

    private void come(int land) {
        addCoin(land, 0);
        for (int full = 10; full <= value(land); full += 10) {
            favour = favour == 500 ? 500 : favour + 1;
        }
    }

    private List<Coin> at(int place) {
        List<Coin> found = new ArrayList<>();
        for (Coin coin : coins) {
            if (coin.place == place) {
                found.add(coin);
            }
        }
        return found;
    }

    private List<Coin> ofLand(List<Coin> some, int land) {
        List<Coin> found = new ArrayList<>();
        for (Coin coin : some) {
            if (coin.land == land) {
                found.add(coin);
            }
        }
        return found;
    }

    private List<Coin> inWell() {
        List<Coin> found = new ArrayList<>();
        for (int layer = 0; layer < 5; layer++) {
            found.addAll(at(layer));
        }
        return found;
    }

    private int added(List<Coin> some) {
        int sum = 0;
        for (Coin coin : some) {
            sum += value(coin.land);
        }
        return sum;
    }

    int addLand(int value, int weight) {
        argument(value >= 1 && value <= 50 && weight >= 1 && weight <= 9);
        state(lands.size() < 6);
        Land land = new Land();
        land.value = value;
        land.weight = weight;
        lands.add(land);
        return lands.size() - 1;
    }

    int setTide(int weekday, int many) {
        index(weekday >= 0 && weekday <= 6);
        argument(many >= 0 && many <= 9);
        int before = tide[weekday];
        tide[weekday] = many;
        return before;
    }

    int wish(int land, int kind) {
        index(land >= 0 && land < lands.size());
        argument(kind >= 0 && kind <= 3);
        state(wishes.size() < 24);
        come(land);
        Wish wish = new Wish();
        wish.kind = kind;
        wish.land = land;
        wish.thrown = day;
        wishes.add(wish);
        return wishes.size() - 1;
    }

    int withdraw(int number) {
        index(number >= 0 && number < wishes.size());
        Wish wish = wishes.get(number);
        state(wish.state == 0);
        wish.state = 2;
        favour = favour < 5 ? 0 : favour - 5;
        for (int layer = 0; layer < 5; layer++) {
            List<Coin> there = ofLand(at(layer), wish.land);
            if (!there.isEmpty()) {
                there.get(0).place = TAKEN_BACK;
                return layer;
            }
        }
        return -1;
    }

    int fish(int layer, int many) {
        index(layer >= 0 && layer <= 4);
        argument(many >= 1 && many <= 20);
        int taken = 0;
        for (int i = 0; i < many; i++) {
            Coin best = null;
            for (Coin coin : at(layer)) {
                if (best == null || value(coin.land) > value(best.land)
                        || value(coin.land) == value(best.land) && coin.land < best.land) {
                    best = coin;
                }
            }
            if (best != null) {
                best.place = FISHED;
                taken += value(best.land);
            }
        }
        return taken;
    }

    int audit(int layer) {
        index(layer >= 0 && layer <= 4);
        List<Coin> found = at(layer);
        for (Coin coin : found) {
            coin.place = AUDITED;
        }
        return found.size();
    }

    int missing(int land) {
        index(land >= 0 && land < lands.size());
        return ofLand(coins, land).size() - ofLand(inWell(), land).size()
                - ofLand(at(AUDITED), land).size() - ofLand(at(TAKEN_BACK), land).size();
    }

    int land(int land, int what) {
        index(land >= 0 && land < lands.size() && what >= 0 && what <= 4);
        int[] told = {value(land), lands.get(land).weight, ofLand(coins, land).size(),
            ofLand(inWell(), land).size(), ofLand(at(AUDITED), land).size()};
        return told[what];
    }

    int coins(int layer, int land) {
        index(layer >= 0 && layer <= 4 && land >= 0 && land < lands.size());
        return ofLand(at(layer), land).size();
    }

    int told(int number, int what) {
        index(number >= 0 && number < wishes.size() && what >= 0 && what <= 4);
        Wish wish = wishes.get(number);
        int[] told = {wish.kind, wish.land, wish.thrown, wish.state, wish.granted};
        return told[what];
    }

    private int inState(int state) {
        int many = 0;
        for (Wish wish : wishes) {
            many += wish.state == state ? 1 : 0;
        }
        return many;
    }

    int count(int what) {
        index(what >= 0 && what <= 10);
        int[] told = {day, lands.size(), wishes.size(), inState(0), inState(1), favour, turn,
            inWell().size(), added(inWell()), added(at(AUDITED)), added(at(FISHED))};
        return told[what];
    }

    int pass(int days) {
        argument(days >= 1 && days <= 100);
        int before = inState(1);
        for (int i = 0; i < days; i++) {
            oneDay();
        }
        return inState(1) - before;
    }

    private void oneDay() {
        for (int visitor = 0; visitor < tide[day % 7] && !lands.isEmpty(); visitor++) {
            come((day + visitor) % lands.size());
        }
        for (int layer = 3; layer >= 0; layer--) {
            for (int land = 0; land < lands.size(); land++) {
                List<Coin> there = ofLand(at(layer), land);
                int share = lands.get(land).weight >= 4 ? 2 : 4;
                for (int i = 0; i < there.size() / share; i++) {
                    there.get(i).place = layer + 1;
                }
            }
        }
        int chosen = next(turn);
        if (chosen >= 0 && favour >= 10 + value(wishes.get(chosen).land)) {
            wishes.get(chosen).state = 1;
            wishes.get(chosen).granted = day;
            favour -= 10 + value(wishes.get(chosen).land);
        } else {
            favour = favour >= 498 ? 500 : favour + 2;
        }
        turn = turn == 3 ? 0 : turn + 1;
        day++;
    }

    int next(int kind) {
        index(kind >= 0 && kind <= 3);
        for (int value = 50; value >= 1; value--) {
            for (int i = 0; i < wishes.size(); i++) {
                Wish wish = wishes.get(i);
                if (wish.state == 0 && wish.kind == kind && value(wish.land) == value) {
                    return i;
                }
            }
        }
        return -1;
    }

    int waits(int wish) {
        index(wish >= 0 && wish < wishes.size());
        PlainWell then = copy();
        for (int days = 0; days <= 200; days++) {
            if (then.wishes.get(wish).state != 0) {
                return then.wishes.get(wish).state == 1 ? days : -1;
            }
            then.oneDay();
        }
        return -1;
    }

    int foresee(int days, int what) {
        argument(days >= 1 && days <= 100);
        index(what >= 0 && what <= 2);
        PlainWell then = copy();
        then.pass(days);
        int[] told = {then.favour, then.at(4).size(), then.added(then.inWell())};
        return told[what];
    }

    int richest() {
        int best = -1;
        for (int layer = 4; layer >= 0; layer--) {
            if (!at(layer).isEmpty() && (best < 0 || added(at(layer)) >= added(at(best)))) {
                best = layer;
            }
        }
        return best;
    }

    /** Each coin is taken or left, one after the other. */
    int change(int pence) {
        argument(pence >= 1 && pence <= 300);
        int far = 1000000;
        int[] fewest = new int[301];
        java.util.Arrays.fill(fewest, far);
        fewest[0] = 0;
        for (Coin coin : inWell()) {
            for (int sum = 300; sum >= value(coin.land); sum--) {
                fewest[sum] = Math.min(fewest[sum], fewest[sum - value(coin.land)] + 1);
            }
        }
        return fewest[pence] == far ? -1 : fewest[pence];
    }

    double mean() {
        double days = 0;
        for (Wish wish : wishes) {
            days += wish.state == 1 ? wish.granted - wish.thrown : 0;
        }
        return days == 0 ? 0 : days / inState(1);
    }

    long digest() {
        List<Integer> told = new ArrayList<>();
        for (int what = 0; what <= 10; what++) {
            told.add(count(what));
        }
        for (int many : tide) {
            told.add(many);
        }
        for (int land = 0; land < lands.size(); land++) {
            for (int what = 0; what <= 4; what++) {
                told.add(land(land, what));
            }
            told.add(missing(land));
        }
        for (int layer = 0; layer <= 4; layer++) {
            for (int land = 0; land < lands.size(); land++) {
                told.add(coins(layer, land));
            }
        }
        for (int wish = 0; wish < wishes.size(); wish++) {
            for (int what = 0; what <= 4; what++) {
                told.add(told(wish, what));
            }
        }
        long d = 821;
        for (int x : told) {
            d = d * 31 + x;
        }
        return d;
    }
}
