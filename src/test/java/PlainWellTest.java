import java.util.Random;

/** Long runs of calls, the same ones in each run of the test, answered by WishWell as by PlainWell. */
public final class PlainWellTest {
    private interface Answer {
        Object give();
    }

    private static final Due due = new Due("PlainWellTest");
    private static final int RUNS = 210;
    private static final int CALLS = 512;
    private static final int[] ODD = {-1, Integer.MIN_VALUE, Integer.MAX_VALUE};

    private final Random random;
    private final WishWell well = new WishWell();
    private final PlainWell plain = new PlainWell();
    private final String run;
    // How busy this run is: days that pass at once, wishes, visitors, thieves and auditors.
    private final int longest;
    private final int wishful;
    private final int busiest;
    private final int taking;
    private final boolean dear;

    private PlainWellTest(int seed) {
        random = new Random(seed);
        run = "run " + seed + ": ";
        longest = new int[] {1, 3, 8, 30}[random.nextInt(4)];
        wishful = new int[] {2, 10, 40}[random.nextInt(3)];
        busiest = new int[] {0, 1, 3, 10}[random.nextInt(4)];
        taking = new int[] {1, 5, 20}[random.nextInt(3)];
        dear = random.nextBoolean();
    }

    public static void main(String[] args) {
        for (int seed = 0; seed < RUNS; seed++) {
            PlainWellTest test = new PlainWellTest(seed);
            int lands = seed % 7;
            for (int i = 0; i < lands; i++) {
                test.addLand();
            }
            for (int i = lands; i < CALLS; i++) {
                test.anyCall();
            }
        }
        due.close();
    }

    private static Object answerOf(Answer answer) {
        try {
            return answer.give();
        } catch (IndexOutOfBoundsException | IllegalArgumentException | IllegalStateException e) {
            return "throws " + e.getClass().getName();
        }
    }

    private void compare(String call, Answer got, Answer want) {
        due.same(run + call, answerOf(got).toString(), answerOf(want).toString());
    }

    /** Mostly from least to most, sometimes a little or far beyond. */
    private int number(int least, int most) {
        int dice = random.nextInt(60);
        if (dice == 0) {
            return ODD[random.nextInt(ODD.length)];
        }
        if (dice == 1) {
            return random.nextBoolean() ? least - 1 : most + 1;
        }
        return most < least ? least : least + random.nextInt(most - least + 1);
    }

    private int land() {
        return number(0, plain.count(1) - 1);
    }

    private int aWish() {
        return number(0, plain.count(2) - 1);
    }

    private void addLand() {
        int value = dear ? number(30, 50) : number(1, 50);
        int weight = number(1, 9);
        compare("addLand(" + value + ", " + weight + ")",
                () -> well.addLand(value, weight), () -> plain.addLand(value, weight));
    }

    private void anyCall() {
        int dice = random.nextInt(100 + wishful + taking);
        if (dice < 50) {
            ask();
        } else if (dice < 75) {
            int days = number(1, longest);
            compare("pass(" + days + ")", () -> well.pass(days), () -> plain.pass(days));
        } else if (dice < 92) {
            int weekday = number(0, 6);
            int many = busiest == 10 ? number(0, 9) : number(0, busiest);
            compare("setTide(" + weekday + ", " + many + ")",
                    () -> well.setTide(weekday, many), () -> plain.setTide(weekday, many));
        } else if (dice < 94) {
            addLand();
        } else if (dice < 100) {
            int wish = aWish();
            compare("withdraw(" + wish + ")", () -> well.withdraw(wish), () -> plain.withdraw(wish));
        } else if (dice < 100 + wishful) {
            int land = land();
            int kind = number(0, 3);
            compare("wish(" + land + ", " + kind + ")", () -> well.wish(land, kind), () -> plain.wish(land, kind));
        } else {
            take();
        }
    }

    private void take() {
        int layer = number(0, 4);
        if (random.nextInt(4) == 0) {
            compare("audit(" + layer + ")", () -> well.audit(layer), () -> plain.audit(layer));
        } else {
            int many = number(1, 20);
            compare("fish(" + layer + ", " + many + ")", () -> well.fish(layer, many), () -> plain.fish(layer, many));
        }
    }

    private void ask() {
        int land = land();
        int wish = aWish();
        int what = number(0, 4);
        int kind = number(0, 3);
        int dice = random.nextInt(14);
        if (dice == 0) {
            compare("missing(" + land + ")", () -> well.missing(land), () -> plain.missing(land));
        } else if (dice == 1) {
            compare("land(" + land + ", " + what + ")", () -> well.land(land, what), () -> plain.land(land, what));
        } else if (dice == 2) {
            compare("coins(" + what + ", " + land + ")", () -> well.coins(what, land), () -> plain.coins(what, land));
        } else if (dice == 3) {
            compare("told(" + wish + ", " + what + ")", () -> well.told(wish, what), () -> plain.told(wish, what));
        } else if (dice == 4) {
            int any = number(0, 10);
            compare("count(" + any + ")", () -> well.count(any), () -> plain.count(any));
        } else if (dice == 5) {
            compare("next(" + kind + ")", () -> well.next(kind), () -> plain.next(kind));
        } else if (dice == 6 || dice == 7) {
            compare("waits(" + wish + ")", () -> well.waits(wish), () -> plain.waits(wish));
        } else if (dice == 8) {
            int days = number(1, 100);
            int any = number(0, 2);
            compare("foresee(" + days + ", " + any + ")",
                    () -> well.foresee(days, any), () -> plain.foresee(days, any));
        } else if (dice == 9) {
            compare("richest()", () -> well.richest(), () -> plain.richest());
        } else if (dice == 10 || dice == 11) {
            int pence = random.nextBoolean() ? number(1, 300) : number(1, 90);
            compare("change(" + pence + ")", () -> well.change(pence), () -> plain.change(pence));
        } else if (dice == 12) {
            compare("mean()", () -> well.mean(), () -> plain.mean());
        } else {
            compare("digest()", () -> well.digest(), () -> plain.digest());
        }
    }
}
