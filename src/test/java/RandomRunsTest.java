import java.util.Random;

/** Runs of up to 512 calls, right and wrong ones mixed, each answer and state compared with PlainClerk's. */
public final class RandomRunsTest {
    private static final int RUNS = 300;
    private static final int MOST_CALLS = 512;

    private final Random random;
    private final WidowPennies mine = new WidowPennies();
    private final PlainClerk plain = new PlainClerk();
    private final boolean heavyOnTables;
    /** Few years go by, and few buy or die, so that some are alive still as the run ends. */
    private final boolean slow;

    private RandomRunsTest(long seed, boolean slow) {
        random = new Random(seed);
        heavyOnTables = seed % 3 == 0;
        this.slow = slow;
    }

    public static void main(String[] args) {
        int aliveAtTheEnd = 0;
        for (int run = 0; run < RUNS && Check.wrongSoFar() < 20; run++) {
            new RandomRunsTest(run, false).withDigests("run " + run + ": ");
            RandomRunsTest slow = new RandomRunsTest(RUNS + run, true);
            slow.digestAtTheEnd("slow run " + run + ": ");
            aliveAtTheEnd += slow.plain.count(2) > 0 ? 1 : 0;
        }
        Check.same("in most slow runs somebody is alive at the end", true, aliveAtTheEnd > RUNS / 2);
        Check.end();
    }

    /** Half of the calls are the digests that compare the states. */
    private void withDigests(String run) {
        for (int i = 0; i < MOST_CALLS / 2 && Check.wrongSoFar() < 20; i++) {
            step(run + "call " + i + " ");
            Check.same(run + "digest behind call " + i, plain.digest(), mine.digest());
        }
    }

    private void digestAtTheEnd(String run) {
        for (int i = 0; i < MOST_CALLS - 1 && Check.wrongSoFar() < 20; i++) {
            step(run + "call " + i + " ");
        }
        Check.same(run + "digest as the last call", plain.digest(), mine.digest());
    }

    /** Mostly between the ends, often at one, and now and then outside. */
    private int number(int least, int most) {
        switch (random.nextInt(24)) {
            case 0: return least - 1;
            case 1: return most + 1;
            case 2: return least;
            case 3: return most;
            case 4: return random.nextInt(8) == 0 ? random.nextInt() : least;
            case 5: return random.nextInt(8) == 0 ? Integer.MIN_VALUE : most;
            case 6: return random.nextInt(8) == 0 ? Integer.MAX_VALUE : least;
            default: return least + random.nextInt(most - least + 1);
        }
    }

    private void both(String what, Check.Call got, Check.Call want) {
        Check.due(what, Check.outcome(want), got);
    }

    private void step(String at) {
        int kind = random.nextInt(20);
        while (slow && comesOrGoes(kind) && random.nextInt(6) != 0) {
            kind = random.nextInt(20);
        }
        if (kind < 7) {
            change(at, kind);
        } else if (kind < 13) {
            look(at, kind);
        } else {
            reckon(at, kind);
        }
    }

    /** buy, die, giveUp and pass. */
    private static boolean comesOrGoes(int kind) {
        return kind >= 2 && kind <= 5 || kind == 13;
    }

    private void change(String at, int kind) {
        int widow = number(0, random.nextInt(4) == 0 ? 9 : 3);
        int age = number(50, 99);
        if (kind == 0) {
            int to = heavyOnTables ? number(0, 1000) : number(0, 60);
            both(at + "setDeaths(" + age + ", " + to + ")", () -> mine.setDeaths(age, to), () -> plain.setDeaths(age, to));
        } else if (kind == 1) {
            int what = number(0, 2);
            int to = number(0, what == 0 ? 200 : 50);
            both(at + "setRate(" + what + ", " + to + ")", () -> mine.setRate(what, to), () -> plain.setRate(what, to));
        } else if (kind < 4) {
            int sum = number(1, random.nextBoolean() ? 999 : 20);
            int putOff = number(0, random.nextBoolean() ? 30 : 3);
            both(at + "buy(" + age + ", " + sum + ", " + putOff + ")",
                () -> mine.buy(age, sum, putOff), () -> plain.buy(age, sum, putOff));
        } else if (kind == 4 && random.nextInt(3) == 0) {
            both(at + "die(" + widow + ")", () -> mine.die(widow), () -> plain.die(widow));
        } else if (kind == 5 && random.nextInt(2) == 0) {
            both(at + "giveUp(" + widow + ")", () -> mine.giveUp(widow), () -> plain.giveUp(widow));
        } else {
            int some = random.nextBoolean() ? 99999 : 3000;
            int sum = number(-some, some);
            both(at + "put(" + sum + ")", () -> mine.put(sum), () -> plain.put(sum));
        }
    }

    private void look(String at, int kind) {
        int age = number(50, 99);
        int sum = number(1, 999);
        int putOff = number(0, 30);
        if (kind == 7) {
            both(at + "worth(" + age + ", " + putOff + ")", () -> mine.worth(age, putOff), () -> plain.worth(age, putOff));
        } else if (kind == 8) {
            both(at + "price(" + age + ", " + sum + ", " + putOff + ")",
                () -> mine.price(age, sum, putOff), () -> plain.price(age, sum, putOff));
        } else if (kind == 9) {
            int widow = number(0, 9);
            int what = number(0, 8);
            both(at + "told(" + widow + ", " + what + ")", () -> mine.told(widow, what), () -> plain.told(widow, what));
        } else if (kind == 10) {
            int what = number(0, 8);
            both(at + "count(" + what + ")", () -> mine.count(what), () -> plain.count(what));
        } else {
            int years = number(0, random.nextBoolean() ? 60 : 4);
            both(at + "alive(" + age + ", " + years + ")", () -> mine.alive(age, years), () -> plain.alive(age, years));
        }
    }

    private void reckon(String at, int kind) {
        int years = number(1, 50);
        if (kind == 13) {
            // Mostly few years, so that widows are about for a while.
            int few = random.nextInt(6) == 0 ? years : number(1, 3);
            both(at + "pass(" + few + ")", () -> mine.pass(few), () -> plain.pass(few));
        } else if (kind < 16) {
            int what = number(2, 7);
            both(at + "foresee(" + years + ", " + what + ")",
                () -> mine.foresee(years, what), () -> plain.foresee(years, what));
        } else if (kind == 16) {
            both(at + "lasts()", mine::lasts, plain::lasts);
        } else if (kind == 17) {
            both(at + "even()", mine::even, plain::even);
        } else if (kind == 18) {
            int age = number(50, 99);
            int putOff = number(0, 30);
            int money = number(1, random.nextBoolean() ? 99999 : 3000);
            both(at + "affords(" + age + ", " + putOff + ", " + money + ")",
                () -> mine.affords(age, putOff, money), () -> plain.affords(age, putOff, money));
        } else {
            both(at + "mean()", mine::mean, plain::mean);
        }
    }
}
