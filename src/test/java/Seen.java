import java.math.BigInteger;
import java.util.ArrayList;
import java.util.List;

/** Everything that a well shows, a line for each answer. A well is asked some 300 times at most. */
final class Seen {
    private static final int[] PENCE = {
        1, 2, 3, 4, 5, 6, 7, 8, 9, 10, 11, 13, 19, 20, 21, 29, 30, 49, 50, 51, 97, 150, 200, 299, 300,
    };

    private final WishWell x;
    private final List<String> lines = new ArrayList<>();

    private Seen(WishWell x) {
        this.x = x;
    }

    static String[] of(WishWell x) {
        Seen seen = new Seen(x);
        seen.counts();
        seen.lands();
        seen.wishes();
        seen.tide();
        seen.whatWouldBe();
        return seen.lines.toArray(new String[0]);
    }

    private void line(String call, Object answer) {
        lines.add(call + " is " + answer);
    }

    private void counts() {
        for (int what = 0; what <= 10; what++) {
            line("count(" + what + ")", x.count(what));
        }
    }

    private void lands() {
        for (int land = 0; land < x.count(1); land++) {
            for (int what = 0; what <= 4; what++) {
                line("land(" + land + ", " + what + ")", x.land(land, what));
            }
            line("missing(" + land + ")", x.missing(land));
            for (int layer = 0; layer <= 4; layer++) {
                line("coins(" + layer + ", " + land + ")", x.coins(layer, land));
            }
        }
    }

    private void wishes() {
        int many = x.count(2);
        for (int wish = 0; wish < many; wish++) {
            for (int what = 0; what <= 4; what++) {
                line("told(" + wish + ", " + what + ")", x.told(wish, what));
            }
            line("waits(" + wish + ")", x.waits(wish));
        }
    }

    private void tide() {
        for (int weekday = 0; weekday <= 6; weekday++) {
            line("tide of " + weekday, tideOf(x, weekday));
        }
    }

    private void whatWouldBe() {
        for (int kind = 0; kind <= 3; kind++) {
            line("next(" + kind + ")", x.next(kind));
        }
        for (int what = 0; what <= 2; what++) {
            line("foresee(1, " + what + ")", x.foresee(1, what));
            line("foresee(100, " + what + ")", x.foresee(100, what));
        }
        for (int pence : PENCE) {
            line("change(" + pence + ")", x.change(pence));
        }
        line("richest()", x.richest());
        line("mean()", x.mean());
        line("digest()", x.digest());
    }

    /** What digest() has to tell, by the other answers, reckoned with numbers of any length and cut at the end. */
    static long digestOf(WishWell x) {
        List<Integer> told = new ArrayList<>();
        for (int what = 0; what <= 10; what++) {
            told.add(x.count(what));
        }
        for (int weekday = 0; weekday <= 6; weekday++) {
            told.add(tideOf(x, weekday));
        }
        for (int land = 0; land < x.count(1); land++) {
            for (int what = 0; what <= 4; what++) {
                told.add(x.land(land, what));
            }
            told.add(x.missing(land));
        }
        for (int layer = 0; layer <= 4; layer++) {
            for (int land = 0; land < x.count(1); land++) {
                told.add(x.coins(layer, land));
            }
        }
        for (int wish = 0; wish < x.count(2); wish++) {
            for (int what = 0; what <= 4; what++) {
                told.add(x.told(wish, what));
            }
        }
        return checksum(told);
    }

    private static long checksum(List<Integer> told) {
        BigInteger d = BigInteger.valueOf(821);
        for (int x : told) {
            d = d.multiply(BigInteger.valueOf(31)).add(BigInteger.valueOf(x));
        }
        return d.longValue();
    }

    /** The tide is shown by setTide alone, so it is set to 0 and back. */
    private static int tideOf(WishWell x, int weekday) {
        int many = x.setTide(weekday, 0);
        x.setTide(weekday, many);
        return many;
    }
}
