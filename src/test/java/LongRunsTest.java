/** Each promise at the end of a long run: the 512th call, or the 511th and what the 512th tells of it. */
public final class LongRunsTest extends Books {
    private static final int MOST_CALLS = 512;
    private static final int[] COUNTED = {3, 5, 2, 3956, 3760, 196, 100, 554, 4510};
    private static final int[] RATES = {0, 20, 10};
    private static final int[][] TOLD = {
        {63, 100, 0, 3, 0, 3700, 300, 4000, 3330},
        {93, 10, 1, 3, 0, 60, 0, 60, 54},
        {62, 5, 0, 2, 2, 0, 200, 200, 0},
        {72, 7, 0, 2, 1, 0, 14, 210, 0},
        {100, 20, 0, 2, 1, 0, 40, 40, 0},
    };

    /** A call on the object of a run. */
    private interface Call {
        Object answer(WidowPennies x);
    }

    /** Calls that are made in a row on one object. */
    private interface Calls {
        void make(WidowPennies x, int number);
    }

    private final WidowPennies book = new WidowPennies();
    private int calls;

    private LongRunsTest() {
    }

    public static void main(String[] args) {
        newObject();
        newObjectLookedAt();
        setDeaths();
        setRate();
        buy();
        buyWhenFull();
        ten();
        die();
        giveUp();
        put();
        worth();
        price();
        told();
        count();
        alive();
        pass();
        foresee();
        lasts();
        even();
        affords();
        mean();
        digest();
        tenFrom50To100();
        yearsOfInterest();
        Check.end();
    }

    // ---- the run

    /** Each call of a run goes through here. */
    private WidowPennies at() {
        calls++;
        return book;
    }

    /**
     * Nobody dies ahead of 100, and there is no interest. Two of five widows are alive behind 3 years, one gave up,
     * one died, and one became 100: COUNTED, RATES and TOLD. What else was called changed nothing, or was undone.
     */
    private static LongRunsTest run(int length) {
        LongRunsTest run = new LongRunsTest();
        for (int age = 50; age <= 99; age++) {
            run.at().setDeaths(age, 0);
        }
        for (int what = 0; what <= 2; what++) {
            run.at().setRate(what, 0);
        }
        run.at().buy(60, 100, 0);
        run.at().buy(90, 10, 4);
        run.at().buy(60, 5, 0);
        run.at().buy(70, 7, 0);
        run.at().buy(98, 20, 0);
        run.fill(200);
        run.at().pass(2);
        run.at().giveUp(2);
        run.at().die(3);
        run.fill(400);
        run.at().pass(1);
        run.at().setRate(1, 20);
        run.at().setRate(2, 10);
        run.fill(length);
        Check.same("the run's length", length, run.calls);
        return run;
    }

    private void fill(int length) {
        for (int i = 0; calls < length; i++) {
            if (i % 4 == 0 && calls + 2 <= length) {
                thereAndBack(i / 4);
            } else if (i % 4 == 1) {
                Check.outcome(() -> refusedCall(at()));
            } else {
                lookedAt();
            }
        }
    }

    private void thereAndBack(int i) {
        switch (i % 5) {
            case 0:
                at().put(i * 7919 % 100000);
                at().put(-(i * 7919 % 100000));
                break;
            case 1:
                at().setDeaths(50 + i % 50, i * 37 % 1001);
                at().setDeaths(50 + i % 50, 0);
                break;
            default:
                int was = at().setRate(i % 3, i % 51);
                at().setRate(i % 3, was);
                break;
        }
    }

    private Object refusedCall(WidowPennies x) {
        switch (calls % 12) {
            case 0: return x.setDeaths(60, 1001);
            case 1: return x.setRate(0, 201);
            case 2: return x.buy(99, 1, 1);
            case 3: return x.die(5);
            case 4: return x.giveUp(-1);
            case 5: return x.put(100000);
            case 6: return x.worth(49, 0);
            case 7: return x.told(0, 9);
            case 8: return x.alive(60, 61);
            case 9: return x.pass(51);
            case 10: return x.foresee(50, 8);
            default: return x.affords(60, 0, 0);
        }
    }

    private void lookedAt() {
        WidowPennies x = at();
        switch (calls % 11) {
            case 0: x.worth(50 + calls % 50, calls % 31); break;
            case 1: x.price(50 + calls % 50, 1 + calls, calls % 31); break;
            case 2: x.told(calls % 5, calls % 9); break;
            case 3: x.count(calls % 9); break;
            case 4: x.alive(50 + calls % 50, calls % 61); break;
            case 5: x.foresee(50, 2 + calls % 6); break;
            case 6: x.lasts(); break;
            case 7: x.even(); break;
            case 8: x.affords(50 + calls % 50, 0, 100 * calls); break;
            case 9: x.mean(); break;
            default: x.digest(); break;
        }
    }

    // ---- what is looked at

    /** The 512th call. */
    private static void last(String what, Object want, Call call) {
        LongRunsTest run = run(MOST_CALLS - 1);
        Check.due("512th: " + what, want, () -> call.answer(run.at()));
    }

    /** The 511th call, and as the 512th what is told behind it. */
    private static void ends(String what, Object want, Call call, Object wantThen, Call then) {
        LongRunsTest run = run(MOST_CALLS - 2);
        Check.due("511th: " + what, want, () -> call.answer(run.at()));
        Check.due("512th, behind " + what, wantThen, () -> then.answer(run.at()));
    }

    /** Some calls that are not refused, and the 512th behind them. */
    private static void behind(String what, Object want, Call last, Call... ahead) {
        LongRunsTest run = run(MOST_CALLS - 1 - ahead.length);
        for (Call call : ahead) {
            call.answer(run.at());
        }
        Check.due("512th: " + what, want, () -> last.answer(run.at()));
    }

    /** A call that changes nothing, as it only looks or throws. */
    private static void changesNothing(String what, Object want, Call call) {
        last(what, want, call);
        ends(what, want, call, endDigest(), WidowPennies::digest);
    }

    /** A call that changes something, whatever that is. */
    private static void changes(String what, Object want, Call call) {
        last(what, want, call);
        LongRunsTest run = run(MOST_CALLS - 2);
        Check.due("511th: " + what, want, () -> call.answer(run.at()));
        Check.same("512th, behind " + what + ", digest is another", false, endDigest() == run.at().digest());
    }

    private static long endDigest() {
        return endDigest(new int[50]);
    }

    private static long endDigest(int[] deaths) {
        long d = fold(1667, COUNTED);
        d = fold(d, RATES);
        d = fold(d, deaths);
        for (int[] row : TOLD) {
            d = fold(d, row);
        }
        return d;
    }

    private static long fold(long d, int[] row) {
        for (int x : row) {
            d = d * 31 + x;
        }
        return d;
    }

    // ---- promise by promise

    private static void inARow(WidowPennies x, int length, Calls all) {
        for (int i = 0; i < length; i++) {
            all.make(x, i);
        }
    }

    private static void newObject() {
        WidowPennies x = new WidowPennies();
        long before = x.digest();
        LongRunsTest refuses = new LongRunsTest();
        inARow(x, MOST_CALLS - 2, (same, i) -> {
            refuses.calls = i;
            Check.same("1 refused " + i, true, Check.outcome(() -> refuses.refusedCall(same)).startsWith("throws.I"));
        });
        Check.same("1 refused 510 times", before, x.digest());
        Check.same("1 another is new", before, new WidowPennies().digest());
    }

    private static void newObjectLookedAt() {
        WidowPennies x = new WidowPennies();
        long before = x.digest();
        inARow(x, 170, (same, i) -> {
            Check.same("1 nobody, lasts " + i, -1, same.lasts());
            Check.same("1 nobody, even " + i, 0, same.even());
            Check.same("1 nobody, foresee " + i, 0, same.foresee(1 + i % 50, 2 + i % 6));
        });
        Check.same("1 looked at 510 times", before, x.digest());
    }

    private static void setDeaths() {
        changes("setDeaths(99, 1000)", 0, x -> x.setDeaths(99, 1000));
        changes("setDeaths(50, 1)", 0, x -> x.setDeaths(50, 1));
        ends("setDeaths(99, 1000)", 0, x -> x.setDeaths(99, 1000), 0, x -> x.worth(99, 0));
        ends("setDeaths(99, 500)", 0, x -> x.setDeaths(99, 500), 500, x -> x.setDeaths(99, 0));
        changesNothing("setDeaths(75, 0)", 0, x -> x.setDeaths(75, 0));
        changesNothing("setDeaths(49, 0)", INDEX, x -> x.setDeaths(49, 0));
        changesNothing("setDeaths(100, -1)", INDEX, x -> x.setDeaths(100, -1));
        changesNothing("setDeaths(50, 1001)", ARGUMENT, x -> x.setDeaths(50, 1001));
        changesNothing("setDeaths(99, -1)", ARGUMENT, x -> x.setDeaths(99, -1));
        WidowPennies y = new WidowPennies();
        inARow(y, MOST_CALLS, (x, i) -> {
            int before = i < 50 ? 10 + 8 * i : i - 50;
            Check.same("2 set again and again, " + i, before, x.setDeaths(50 + i % 50, i));
        });
    }

    private static void setRate() {
        changes("setRate(0, 200)", 0, x -> x.setRate(0, 200));
        changes("setRate(1, 50)", 20, x -> x.setRate(1, 50));
        changes("setRate(2, 0)", 10, x -> x.setRate(2, 0));
        ends("setRate(0, 200)", 0, x -> x.setRate(0, 200), 3956 + 791 - 100, x -> x.foresee(1, 3));
        ends("setRate(1, 50)", 20, x -> x.setRate(1, 50), 3, x -> x.price(99, 2, 0));
        ends("setRate(2, 50)", 10, x -> x.setRate(2, 50), 1850, x -> x.told(0, 8));
        changesNothing("setRate(1, 20)", 20, x -> x.setRate(1, 20));
        changesNothing("setRate(3, 0)", INDEX, x -> x.setRate(3, 0));
        changesNothing("setRate(-1, 201)", INDEX, x -> x.setRate(-1, 201));
        changesNothing("setRate(0, 201)", ARGUMENT, x -> x.setRate(0, 201));
        changesNothing("setRate(1, 51)", ARGUMENT, x -> x.setRate(1, 51));
        changesNothing("setRate(2, -1)", ARGUMENT, x -> x.setRate(2, -1));
        WidowPennies y = new WidowPennies();
        int[] was = {40, 5, 10};
        inARow(y, MOST_CALLS, (x, i) -> {
            Check.same("3 set again and again, " + i, was[i % 3], x.setRate(i % 3, i % 51));
            was[i % 3] = i % 51;
        });
    }

    private static void buy() {
        changes("buy(60, 1, 0)", 5, x -> x.buy(60, 1, 0));
        changes("buy(50, 999, 30)", 5, x -> x.buy(50, 999, 30));
        ends("buy(99, 10, 0)", 5, x -> x.buy(99, 10, 0), 3968, x -> x.count(3));
        ends("buy(99, 10, 0)", 5, x -> x.buy(99, 10, 0), 12, x -> x.told(5, 7));
        ends("buy(99, 10, 0)", 5, x -> x.buy(99, 10, 0), 4522, x -> x.count(8));
        ends("buy(99, 10, 0)", 5, x -> x.buy(99, 10, 0), 6, x -> x.buy(69, 1, 30));
        changesNothing("buy(49, 1, 0)", ARGUMENT, x -> x.buy(49, 1, 0));
        changesNothing("buy(60, 1000, 0)", ARGUMENT, x -> x.buy(60, 1000, 0));
        changesNothing("buy(60, 1, 31)", ARGUMENT, x -> x.buy(60, 1, 31));
        changesNothing("buy(70, 1, 30)", STATE, x -> x.buy(70, 1, 30));
    }

    private static void buyWhenFull() {
        LongRunsTest nine = run(MOST_CALLS - 5);
        for (int i = 5; i < 9; i++) {
            Check.same("4 buy " + i, i, nine.at().buy(99, i, 0));
        }
        Check.due("512th: the tenth", 9, () -> nine.at().buy(99, 1, 0));
        LongRunsTest ten = run(MOST_CALLS - 6);
        for (int i = 5; i < 10; i++) {
            Check.same("4 buy " + i, i, ten.at().buy(99, i, 0));
        }
        Check.due("512th: the eleventh", STATE, () -> ten.at().buy(60, 1, 0));
    }

    private static void ofTen(String what, Object want, Call last) {
        Call bought = x -> x.buy(99, 1, 0);
        behind("of ten, " + what, want, last, bought, bought, bought, bought, bought);
    }

    private static void ten() {
        ofTen("written", 10, x -> x.count(1));
        ofTen("alive", 7, x -> x.count(2));
        ofTen("kept", 3765, x -> x.count(4));
        ofTen("sums", 105, x -> x.count(6));
        ofTen("prices", 4515, x -> x.count(8));
        ofTen("mean", 93.0, WidowPennies::mean);
        ofTen("the last", 99, x -> x.told(9, 0));
        ofTen("behind the last", INDEX, x -> x.told(10, 0));
        ofTen("one dies behind the last", INDEX, x -> x.die(10));
        ofTen("a year", 105, x -> x.pass(1));
        ofTen("foreseen", 659, x -> x.foresee(1, 7));
    }

    private static void die() {
        changes("die(0)", 3700, x -> x.die(0));
        changes("die(1)", 60, x -> x.die(1));
        ends("die(0)", 3700, x -> x.die(0), 1, x -> x.told(0, 4));
        ends("die(0)", 3700, x -> x.die(0), 60, x -> x.count(4));
        ends("die(0)", 3700, x -> x.die(0), 3956, x -> x.count(3));
        ends("die(0)", 3700, x -> x.die(0), STATE, x -> x.die(0));
        for (int widow = 2; widow <= 4; widow++) {
            int one = widow;
            changesNothing("die(" + one + ")", STATE, x -> x.die(one));
        }
        changesNothing("die(5)", INDEX, x -> x.die(5));
        changesNothing("die(-1)", INDEX, x -> x.die(-1));
    }

    private static void giveUp() {
        changes("giveUp(0)", 3330, x -> x.giveUp(0));
        changes("giveUp(1)", 54, x -> x.giveUp(1));
        ends("giveUp(0)", 3330, x -> x.giveUp(0), 626, x -> x.count(3));
        ends("giveUp(0)", 3330, x -> x.giveUp(0), 3884, x -> x.count(7));
        ends("giveUp(0)", 3330, x -> x.giveUp(0), 3630, x -> x.told(0, 6));
        ends("giveUp(0)", 3330, x -> x.giveUp(0), 2, x -> x.told(0, 4));
        ends("giveUp(0)", 3330, x -> x.giveUp(0), STATE, x -> x.giveUp(0));
        ends("buy(60, 1, 0)", 5, x -> x.buy(60, 1, 0), STATE, x -> x.giveUp(5));
        behind("bought 1 year ago", STATE, x -> x.giveUp(5), x -> x.buy(60, 10, 0), x -> x.pass(1));
        behind("bought 1 year ago, told", 0, x -> x.told(5, 8), x -> x.buy(60, 10, 0), x -> x.pass(1));
        behind("bought 2 years ago", 342, x -> x.giveUp(5), x -> x.buy(60, 10, 0), x -> x.pass(2));
        behind("bought 2 years ago, told", 342, x -> x.told(5, 8), x -> x.buy(60, 10, 0), x -> x.pass(2));
        for (int widow = 2; widow <= 4; widow++) {
            int one = widow;
            changesNothing("giveUp(" + one + ")", STATE, x -> x.giveUp(one));
        }
        changesNothing("giveUp(5)", INDEX, x -> x.giveUp(5));
        changesNothing("giveUp(-1)", INDEX, x -> x.giveUp(-1));
    }

    private static void put() {
        changes("put(99999)", 103955, x -> x.put(99999));
        changes("put(-99999)", -96043, x -> x.put(-99999));
        ends("put(44)", 4000, x -> x.put(44), 4000, x -> x.count(3));
        ends("put(-197)", 3759, x -> x.put(-197), -1, x -> x.count(5));
        changesNothing("put(0)", 3956, x -> x.put(0));
        changesNothing("put(100000)", ARGUMENT, x -> x.put(100000));
        changesNothing("put(-100000)", ARGUMENT, x -> x.put(-100000));
        WidowPennies y = new WidowPennies();
        inARow(y, MOST_CALLS, (x, i) -> Check.same("7 in again and again, " + i, 99999 * (i + 1), x.put(99999)));
        WidowPennies z = new WidowPennies();
        inARow(z, MOST_CALLS, (x, i) -> Check.same("7 out again and again, " + i, -99999 * (i + 1), x.put(-99999)));
    }

    private static void worth() {
        changesNothing("worth(50, 0)", 50000, x -> x.worth(50, 0));
        changesNothing("worth(69, 30)", 1000, x -> x.worth(69, 30));
        changesNothing("worth(70, 30)", 0, x -> x.worth(70, 30));
        changesNothing("worth(100, 0)", ARGUMENT, x -> x.worth(100, 0));
        changesNothing("worth(50, 31)", ARGUMENT, x -> x.worth(50, 31));
    }

    private static void price() {
        changesNothing("price(50, 999, 0)", 59940, x -> x.price(50, 999, 0));
        changesNothing("price(99, 4, 0)", 4, x -> x.price(99, 4, 0));
        changesNothing("price(99, 5, 0)", 6, x -> x.price(99, 5, 0));
        changesNothing("price(99, 999, 1)", 0, x -> x.price(99, 999, 1));
        ends("setDeaths(99, 999)", 0, x -> x.setDeaths(99, 999), 1, x -> x.price(99, 1, 0));
        ends("setDeaths(99, 1000)", 0, x -> x.setDeaths(99, 1000), 0, x -> x.price(99, 1, 0));
        changesNothing("price(49, 1, 0)", ARGUMENT, x -> x.price(49, 1, 0));
        changesNothing("price(50, 0, 0)", ARGUMENT, x -> x.price(50, 0, 0));
        changesNothing("price(50, 1, -1)", ARGUMENT, x -> x.price(50, 1, -1));
    }

    private static void told() {
        for (int widow = 0; widow < TOLD.length; widow++) {
            for (int what = 0; what <= 8; what++) {
                int one = widow;
                int told = what;
                last("told(" + one + ", " + told + ")", TOLD[one][told], x -> x.told(one, told));
            }
        }
        changesNothing("told(0, 8)", 3330, x -> x.told(0, 8));
        changesNothing("told(0, 9)", INDEX, x -> x.told(0, 9));
        changesNothing("told(0, -1)", INDEX, x -> x.told(0, -1));
        changesNothing("told(5, 0)", INDEX, x -> x.told(5, 0));
        changesNothing("told(-1, 0)", INDEX, x -> x.told(-1, 0));
    }

    private static void count() {
        for (int what = 0; what <= 8; what++) {
            int counted = what;
            changesNothing("count(" + counted + ")", COUNTED[counted], x -> x.count(counted));
        }
        changesNothing("count(9)", INDEX, x -> x.count(9));
        changesNothing("count(-1)", INDEX, x -> x.count(-1));
    }

    private static void alive() {
        changesNothing("alive(50, 49)", 1000, x -> x.alive(50, 49));
        changesNothing("alive(50, 50)", 0, x -> x.alive(50, 50));
        changesNothing("alive(50, 60)", 0, x -> x.alive(50, 60));
        changesNothing("alive(99, 1)", 0, x -> x.alive(99, 1));
        ends("setDeaths(60, 250)", 0, x -> x.setDeaths(60, 250), 750, x -> x.alive(60, 39));
        changesNothing("alive(100, 0)", ARGUMENT, x -> x.alive(100, 0));
        changesNothing("alive(50, 61)", ARGUMENT, x -> x.alive(50, 61));
        changesNothing("alive(50, -1)", ARGUMENT, x -> x.alive(50, -1));
    }

    private static void pass() {
        changes("pass(1)", 100, x -> x.pass(1));
        changes("pass(2)", 210, x -> x.pass(2));
        changes("pass(50)", 3760, x -> x.pass(50));
        ends("pass(1)", 100, x -> x.pass(1), 4, x -> x.count(0));
        ends("pass(1)", 100, x -> x.pass(1), 0, x -> x.told(1, 2));
        ends("pass(1)", 100, x -> x.pass(1), 64, x -> x.told(0, 0));
        ends("pass(1)", 100, x -> x.pass(1), 110, x -> x.count(6));
        ends("pass(50)", 3760, x -> x.pass(50), 196, x -> x.count(3));
        ends("pass(36)", 3660, x -> x.pass(36), 100, x -> x.pass(50));
        behind("interest of 1000, and 100 paid", 1100, x -> x.count(3),
            x -> x.put(1000 - 3956), x -> x.setRate(0, 200), x -> x.pass(1));
        behind("no interest of less than 0", -1100, x -> x.count(3),
            x -> x.put(-1000 - 3956), x -> x.setRate(0, 200), x -> x.pass(1));
        behind("who becomes 100 is paid and dies", 1, x -> x.told(5, 4), x -> x.buy(99, 1, 0), x -> x.pass(1));
        behind("who becomes 100 was paid", 1, x -> x.told(5, 6), x -> x.buy(99, 1, 0), x -> x.pass(1));
        changesNothing("pass(0)", ARGUMENT, x -> x.pass(0));
        changesNothing("pass(51)", ARGUMENT, x -> x.pass(51));
        WidowPennies y = new WidowPennies();
        inARow(y, MOST_CALLS, (x, i) -> Check.same("13 nobody is paid, " + i, 0, x.pass(50)));
    }

    private static void foresee() {
        changesNothing("foresee(1, 3)", 3856, x -> x.foresee(1, 3));
        changesNothing("foresee(2, 3)", 3746, x -> x.foresee(2, 3));
        changesNothing("foresee(36, 2)", 1, x -> x.foresee(36, 2));
        changesNothing("foresee(37, 2)", 0, x -> x.foresee(37, 2));
        changesNothing("foresee(1, 4)", 3660, x -> x.foresee(1, 4));
        changesNothing("foresee(50, 5)", 196, x -> x.foresee(50, 5));
        changesNothing("foresee(1, 6)", 110, x -> x.foresee(1, 6));
        changesNothing("foresee(50, 7)", 4314, x -> x.foresee(50, 7));
        changesNothing("foresee(0, 1)", ARGUMENT, x -> x.foresee(0, 1));
        changesNothing("foresee(51, 2)", ARGUMENT, x -> x.foresee(51, 2));
        changesNothing("foresee(1, 1)", INDEX, x -> x.foresee(1, 1));
        changesNothing("foresee(50, 8)", INDEX, x -> x.foresee(50, 8));
    }

    private static void lasts() {
        changesNothing("lasts()", -1, WidowPennies::lasts);
        ends("put(-196)", 3760, x -> x.put(-196), -1, WidowPennies::lasts);
        ends("put(-197)", 3759, x -> x.put(-197), 37, WidowPennies::lasts);
        ends("put(-3956)", 0, x -> x.put(-3956), 1, WidowPennies::lasts);
        ends("put(-3957)", -1, x -> x.put(-3957), 0, WidowPennies::lasts);
    }

    private static void even() {
        changesNothing("even()", 0, WidowPennies::even);
        ends("put(-196)", 3760, x -> x.put(-196), 0, WidowPennies::even);
        ends("put(-197)", 3759, x -> x.put(-197), 1, WidowPennies::even);
        ends("put(-3956)", 0, x -> x.put(-3956), -1, WidowPennies::even);
        int greatest = 0;
        for (int chest = 3700; chest >= 400; chest -= 20) {
            int pennies = chest;
            int want = leastEven(chest);
            ends("put to " + chest, chest, x -> x.put(pennies - 3956), want, WidowPennies::even);
            greatest = Math.max(greatest, want);
        }
        Check.same("16 there are great ones too", true, greatest > 190);
    }

    private static int leastEven(int chest) {
        for (int interest = 0; interest <= 200; interest++) {
            if (chest >= 100 * worthAt(63, 0, interest) / 1000 + 10 * worthAt(93, 1, interest) / 1000) {
                return interest;
            }
        }
        return -1;
    }

    /** If nobody dies ahead of 100. */
    private static int worthAt(int age, int putOff, int interest) {
        if (age >= 100) {
            return 0;
        }
        int next = putOff == 0 ? 1000 + worthAt(age + 1, 0, interest) : worthAt(age + 1, putOff - 1, interest);
        return 1000 * next / (1000 + interest);
    }

    private static void affords() {
        changesNothing("affords(99, 0, 1)", 1, x -> x.affords(99, 0, 1));
        changesNothing("affords(60, 0, 47)", 0, x -> x.affords(60, 0, 47));
        changesNothing("affords(60, 0, 48)", 1, x -> x.affords(60, 0, 48));
        changesNothing("affords(60, 0, 99999)", 999, x -> x.affords(60, 0, 99999));
        changesNothing("affords(99, 1, 99999)", 0, x -> x.affords(99, 1, 99999));
        changesNothing("affords(49, 0, 1)", ARGUMENT, x -> x.affords(49, 0, 1));
        changesNothing("affords(50, 31, 1)", ARGUMENT, x -> x.affords(50, 31, 1));
        changesNothing("affords(50, 0, 0)", ARGUMENT, x -> x.affords(50, 0, 0));
        changesNothing("affords(50, 0, 100000)", ARGUMENT, x -> x.affords(50, 0, 100000));
    }

    private static void mean() {
        changesNothing("mean()", 78.0, WidowPennies::mean);
        ends("die(1)", 60, x -> x.die(1), 63.0, WidowPennies::mean);
        ends("giveUp(0)", 3330, x -> x.giveUp(0), 93.0, WidowPennies::mean);
        ends("pass(50)", 3760, x -> x.pass(50), 0.0, WidowPennies::mean);
    }

    private static void digest() {
        last("digest()", endDigest(), WidowPennies::digest);
        ends("digest()", endDigest(), WidowPennies::digest, endDigest(), WidowPennies::digest);
        int[] deaths = new int[50];
        deaths[0] = 1;
        deaths[11] = 1000;
        // Nobody who is alive is 50 or 61, or will be.
        behind("digest of another table", endDigest(deaths), WidowPennies::digest,
            x -> x.setDeaths(50, 1), x -> x.setDeaths(61, 1000));
        WidowPennies y = new WidowPennies();
        long d = y.digest();
        inARow(y, MOST_CALLS - 1, (x, i) -> Check.same("19 again and again, " + i, d, x.digest()));
    }

    // ---- whole lives

    /** 53 calls for a plain book, 10 that buy, 49 years of 9 calls, and 8 more: 512. */
    private static void tenFrom50To100() {
        WidowPennies x = plainBook();
        for (int i = 0; i < 10; i++) {
            Check.same("ten: buy " + i, i, x.buy(50, 999, 0));
        }
        for (int year = 1; year <= 49; year++) {
            Check.same("ten: year " + year, 9990, x.pass(1));
            int left = 9990 * (50 - year);
            counts("ten: year " + year, x, year, 10, 10, left, left, 0, 9990, 9990 * year);
        }
        Check.same("ten: paid as they become 100", 9990, x.pass(1));
        Check.same("ten: alive", 0, x.count(2));
        Check.same("ten: chest", 0, x.count(3));
        Check.same("ten: paid in all", 499500, x.count(7));
        Check.same("ten: lasts", -1, x.lasts());
        Check.same("ten: even", 0, x.even());
        Check.same("ten: mean", 0.0, x.mean());
        Check.same("ten: the last is told", 100, x.told(9, 0));
    }

    /** The chest grows by its interest, cut each year, until it is full; 2 calls and 255 years of 2. */
    private static void yearsOfInterest() {
        WidowPennies x = new WidowPennies();
        long want = x.put(99999);
        for (int year = 1; year <= 255; year++) {
            Check.same("interest: nobody is paid", 0, x.pass(1));
            want = Math.min(FULL, want + want * 40 / 1000);
            Check.same("interest: year " + year, want, x.count(3));
        }
        Check.same("interest: the 512th call", FULL, x.put(99999));
    }
}
