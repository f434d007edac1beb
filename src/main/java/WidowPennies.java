/**
 * An annuity clerk of widows: yearly sums for life are bought, paid out year by year, and given up,
 * as ../shared/DOC.md promises.
 */
public final class WidowPennies {
    private static final int FIRST_AGE = 50;
    private static final int LAST_AGE = 99;
    private static final int AGES = LAST_AGE - FIRST_AGE + 1;
    private static final int THOUSAND = 1000;
    private static final int HUNDRED = 100;
    private static final int MOST_WIDOWS = 10;
    private static final int MOST_SUM = 999;
    private static final int MOST_PUT_OFF = 30;
    private static final int MOST_PENNIES = 99999;
    private static final int MOST_IN_CHEST = 99999999;
    private static final int MOST_YEARS_ALIVE = 60;
    private static final int MOST_YEARS_PASSING = 50;
    private static final int MOST_YEARS_LASTING = 60;
    private static final int YEARS_BEFORE_GIVING_UP = 2;

    private static final int INTEREST = 0;
    private static final int LOAD = 1;
    private static final int CHARGE = 2;
    private static final int RATES = 3;
    private static final int MOST_INTEREST = 200;
    private static final int MOST_PERCENT = 50;

    private static final int LIVING = 0;
    private static final int DEAD = 1;
    private static final int OUT = 2;

    private static final int THINGS_TOLD = 9;
    private static final int THINGS_COUNTED = 9;
    private static final int FIRST_FORESEEN = 2;
    private static final int LAST_FORESEEN = 7;

    private final Tables tables;
    private final Book book;
    /** What would be is tried out here. It is made once, so that no call makes objects. */
    private final Book trial;

    public WidowPennies() {
        tables = new Tables();
        book = new Book(tables);
        trial = new Book(tables);
    }

    // ---- tables and widows

    public int setDeaths(int age, int deaths) throws IndexOutOfBoundsException, IllegalArgumentException {
        if (!isAge(age)) {
            throw new IndexOutOfBoundsException("age is not 50 to 99");
        }
        if (deaths < 0 || deaths > THOUSAND) {
            throw new IllegalArgumentException("deaths is not 0 to 1000");
        }
        int before = tables.deathsAt(age);
        tables.changeDeaths(age, deaths);
        return before;
    }

    public int setRate(int what, int to) throws IndexOutOfBoundsException, IllegalArgumentException {
        if (what < 0 || what >= RATES) {
            throw new IndexOutOfBoundsException("what is not 0 to 2");
        }
        if (to < 0 || to > (what == INTEREST ? MOST_INTEREST : MOST_PERCENT)) {
            throw new IllegalArgumentException("to is none that it can be");
        }
        int before = tables.rate(what);
        tables.changeRate(what, to);
        return before;
    }

    public int buy(int age, int sum, int putOff) throws IllegalArgumentException, IllegalStateException {
        checkAge(age);
        checkSum(sum);
        checkPutOff(putOff);
        if (book.isFull()) {
            throw new IllegalStateException("10 were written");
        }
        int worth = tables.worthNow(age, putOff);
        if (worth == 0) {
            throw new IllegalStateException("the worth is 0");
        }
        return book.write(age, sum, putOff, tables.priceOf(sum, worth));
    }

    public int die(int widow) throws IndexOutOfBoundsException, IllegalStateException {
        checkWidow(widow);
        Widow one = book.widowAt(widow);
        if (!one.lives()) {
            throw new IllegalStateException("she is not alive");
        }
        int kept = tables.keptNow(one);
        one.state = DEAD;
        return kept;
    }

    public int giveUp(int widow) throws IndexOutOfBoundsException, IllegalStateException {
        checkWidow(widow);
        Widow one = book.widowAt(widow);
        if (!one.canGiveUp()) {
            throw new IllegalStateException("she is not alive, or bought less than 2 years ago");
        }
        int back = tables.givenBack(one);
        one.state = OUT;
        one.got += back;
        book.payOut(back);
        return back;
    }

    public int put(int sum) throws IllegalArgumentException {
        if (sum < -MOST_PENNIES || sum > MOST_PENNIES) {
            throw new IllegalArgumentException("sum is not -99999 to 99999");
        }
        book.takeIn(sum);
        return book.chest;
    }

    // ---- what there is

    public int worth(int age, int putOff) throws IllegalArgumentException {
        checkAge(age);
        checkPutOff(putOff);
        return tables.worthNow(age, putOff);
    }

    public int price(int age, int sum, int putOff) throws IllegalArgumentException {
        checkAge(age);
        checkSum(sum);
        checkPutOff(putOff);
        return tables.priceOf(sum, tables.worthNow(age, putOff));
    }

    public int told(int widow, int what) throws IndexOutOfBoundsException {
        checkWidow(widow);
        if (what < 0 || what >= THINGS_TOLD) {
            throw new IndexOutOfBoundsException("what is not 0 to 8");
        }
        return tables.tellOf(book.widowAt(widow), what);
    }

    public int count(int what) throws IndexOutOfBoundsException {
        if (what < 0 || what >= THINGS_COUNTED) {
            throw new IndexOutOfBoundsException("what is not 0 to 8");
        }
        return book.tell(what);
    }

    public int alive(int age, int years) throws IllegalArgumentException {
        checkAge(age);
        if (years < 0 || years > MOST_YEARS_ALIVE) {
            throw new IllegalArgumentException("years is not 0 to 60");
        }
        return tables.leftOfThousand(age, years);
    }

    // ---- years and what would be

    public int pass(int years) throws IllegalArgumentException {
        checkYearsPassing(years);
        int before = book.paidOut;
        book.passYears(years);
        return book.paidOut - before;
    }

    public int foresee(int years, int what) throws IllegalArgumentException, IndexOutOfBoundsException {
        checkYearsPassing(years);
        if (what < FIRST_FORESEEN || what > LAST_FORESEEN) {
            throw new IndexOutOfBoundsException("what is not 2 to 7");
        }
        trial.copy(book);
        trial.passYears(years);
        return trial.tell(what);
    }

    public int lasts() {
        trial.copy(book);
        for (int years = 0; years <= MOST_YEARS_LASTING; years++) {
            if (trial.chest < 0) {
                return years;
            }
            trial.passYear();
        }
        return -1;
    }

    public int even() {
        // With more interest never more is kept, so the greatest that is too little is found by halving steps.
        int tooLittle = -1;
        for (int step = 128; step > 0; step /= 2) {
            int tried = tooLittle + step;
            if (tried <= MOST_INTEREST && book.keptForAll(tried) > book.chest) {
                tooLittle = tried;
            }
        }
        return tooLittle == MOST_INTEREST ? -1 : tooLittle + 1;
    }

    public int affords(int age, int putOff, int money) throws IllegalArgumentException {
        checkAge(age);
        checkPutOff(putOff);
        if (money < 1 || money > MOST_PENNIES) {
            throw new IllegalArgumentException("money is not 1 to 99999");
        }
        int worth = tables.worthNow(age, putOff);
        return worth == 0 ? 0 : tables.greatestSum(worth, money);
    }

    public double mean() {
        int living = book.living();
        return living == 0 ? 0.0 : (double) book.agesOfLiving() / living;
    }

    public long digest() {
        long d = 1667;
        for (int what = 0; what < THINGS_COUNTED; what++) {
            d = d * 31 + book.tell(what);
        }
        for (int what = 0; what < RATES; what++) {
            d = d * 31 + tables.rate(what);
        }
        for (int age = FIRST_AGE; age <= LAST_AGE; age++) {
            d = d * 31 + tables.deathsAt(age);
        }
        for (int widow = 0; widow < book.written; widow++) {
            for (int what = 0; what < THINGS_TOLD; what++) {
                d = d * 31 + tables.tellOf(book.widowAt(widow), what);
            }
        }
        return d;
    }

    // ---- what the calls refuse

    private static boolean isAge(int age) {
        return age >= FIRST_AGE && age <= LAST_AGE;
    }

    private static void checkAge(int age) {
        if (!isAge(age)) {
            throw new IllegalArgumentException("age is not 50 to 99");
        }
    }

    private static void checkSum(int sum) {
        if (sum < 1 || sum > MOST_SUM) {
            throw new IllegalArgumentException("sum is not 1 to 999");
        }
    }

    private static void checkPutOff(int putOff) {
        if (putOff < 0 || putOff > MOST_PUT_OFF) {
            throw new IllegalArgumentException("putOff is not 0 to 30");
        }
    }

    private static void checkYearsPassing(int years) {
        if (years < 1 || years > MOST_YEARS_PASSING) {
            throw new IllegalArgumentException("years is not 1 to 50");
        }
    }

    private void checkWidow(int widow) {
        if (widow < 0 || widow >= book.written) {
            throw new IndexOutOfBoundsException("there is no such widow");
        }
    }

    /** The table of deaths and the rates, and what is reckoned from them. */
    private static final class Tables {
        private final int[] deaths;
        private final int[] rates;

        Tables() {
            deaths = new int[AGES];
            for (int i = 0; i < AGES; i++) {
                deaths[i] = 10 + 8 * i;
            }
            rates = new int[RATES];
            rates[INTEREST] = 40;
            rates[LOAD] = 5;
            rates[CHARGE] = 10;
        }

        /** Behind the last age nobody lives on. */
        int deathsAt(int age) {
            return isAge(age) ? deaths[age - FIRST_AGE] : THOUSAND;
        }

        void changeDeaths(int age, int to) {
            if (isAge(age)) {
                deaths[age - FIRST_AGE] = to;
            }
        }

        int rate(int what) {
            return what >= 0 && what < RATES ? rates[what] : 0;
        }

        void changeRate(int what, int to) {
            if (what >= 0 && what < RATES) {
                rates[what] = to;
            }
        }

        int worthNow(int age, int putOff) {
            return worthWith(age, putOff, rates[INTEREST]);
        }

        /** From the oldest age down: as long as she gets something the year's 1 is added, ahead of that not. */
        int worthWith(int age, int putOff, int interest) {
            int firstPaid = age + putOff;
            if (firstPaid > LAST_AGE || interest < 0) {
                return 0;
            }
            int worth = 0;
            for (int at = LAST_AGE; at >= age; at--) {
                int ofYear = at >= firstPaid ? THOUSAND : 0;
                worth = (THOUSAND - deathsAt(at)) * (ofYear + worth) / (THOUSAND + interest);
            }
            return worth;
        }

        /** 0 if the worth is 0: only what is worth something has a least price. */
        int priceOf(int sum, int worth) {
            if (worth == 0) {
                return 0;
            }
            int bare = sum * worth / THOUSAND;
            int full = bare + bare * rates[LOAD] / HUNDRED;
            return full < 1 ? 1 : full;
        }

        /** A greater sum never costs less, so it is found by halving steps. */
        int greatestSum(int worth, int money) {
            int greatest = 0;
            for (int step = 512; step > 0; step /= 2) {
                int tried = greatest + step;
                if (tried <= MOST_SUM && priceOf(tried, worth) <= money) {
                    greatest = tried;
                }
            }
            return greatest;
        }

        int leftOfThousand(int age, int years) {
            if (age + years > LAST_AGE) {
                return 0;
            }
            int left = THOUSAND;
            for (int at = age; at < age + years; at++) {
                left = left * (THOUSAND - deathsAt(at)) / THOUSAND;
            }
            return left;
        }

        int keptNow(Widow one) {
            return keptWith(one, rates[INTEREST]);
        }

        int keptWith(Widow one, int interest) {
            return one.lives() ? one.sum * worthWith(one.age, one.wait, interest) / THOUSAND : 0;
        }

        int givenBack(Widow one) {
            if (!one.canGiveUp()) {
                return 0;
            }
            int kept = keptNow(one);
            return kept - kept * rates[CHARGE] / HUNDRED;
        }

        int tellOf(Widow one, int what) {
            switch (what) {
                case 0: return one.age;
                case 1: return one.sum;
                case 2: return one.wait;
                case 3: return one.held;
                case 4: return one.state;
                case 5: return keptNow(one);
                case 6: return one.got;
                case 7: return one.cost;
                default: return givenBack(one);
            }
        }
    }

    /** One who was written. */
    private static final class Widow {
        int age;
        int sum;
        /** Years by which the sum is put off still. */
        int wait;
        /** Years since she bought. */
        int held;
        int state;
        int got;
        int cost;

        boolean lives() {
            return state == LIVING;
        }

        boolean canGiveUp() {
            return lives() && held >= YEARS_BEFORE_GIVING_UP;
        }

        void start(int ageNow, int yearlySum, int putOff, int pricePaid) {
            age = ageNow;
            sum = yearlySum;
            wait = putOff;
            held = 0;
            state = LIVING;
            got = 0;
            cost = pricePaid;
        }

        void copy(Widow other) {
            age = other.age;
            sum = other.sum;
            wait = other.wait;
            held = other.held;
            state = other.state;
            got = other.got;
            cost = other.cost;
        }

        /** Lets a year go by for her, and returns what she gets in it. */
        int liveYear() {
            int due = wait == 0 ? sum : 0;
            if (wait > 0) {
                wait--;
            }
            got += due;
            age++;
            held++;
            if (age > LAST_AGE) {
                state = DEAD;
            }
            return due;
        }
    }

    /** The widows, the chest and the year. */
    private static final class Book {
        private final Tables tables;
        private final Widow[] widows;
        int written;
        int chest;
        int paidOut;
        private int prices;
        private int year;

        Book(Tables reckonedBy) {
            tables = reckonedBy;
            widows = new Widow[MOST_WIDOWS];
            for (int i = 0; i < MOST_WIDOWS; i++) {
                widows[i] = new Widow();
            }
        }

        boolean isFull() {
            return written >= MOST_WIDOWS;
        }

        /** A number that is none stands for the first row, so that no index is ever out of the rows. */
        Widow widowAt(int number) {
            return widows[number >= 0 && number < MOST_WIDOWS ? number : 0];
        }

        int write(int age, int sum, int putOff, int cost) {
            int number = written;
            widowAt(number).start(age, sum, putOff, cost);
            written++;
            prices += cost;
            takeIn(cost);
            return number;
        }

        void takeIn(int pennies) {
            int then = chest + pennies;
            chest = then > MOST_IN_CHEST ? MOST_IN_CHEST : then;
        }

        void payOut(int pennies) {
            chest -= pennies;
            paidOut += pennies;
        }

        void copy(Book other) {
            written = other.written;
            chest = other.chest;
            paidOut = other.paidOut;
            prices = other.prices;
            year = other.year;
            for (int i = 0; i < MOST_WIDOWS; i++) {
                widows[i].copy(other.widows[i]);
            }
        }

        void passYears(int years) {
            for (int i = 0; i < years; i++) {
                passYear();
            }
        }

        void passYear() {
            if (chest > 0) {
                // A full chest times the interest is more than an int holds.
                takeIn((int) ((long) chest * tables.rate(INTEREST) / THOUSAND));
            }
            for (int i = 0; i < written; i++) {
                Widow one = widowAt(i);
                if (one.lives()) {
                    payOut(one.liveYear());
                }
            }
            year++;
        }

        int tell(int what) {
            switch (what) {
                case 0: return year;
                case 1: return written;
                case 2: return living();
                case 3: return chest;
                case 4: return keptForAll(tables.rate(INTEREST));
                case 5: return chest - keptForAll(tables.rate(INTEREST));
                case 6: return sumsDue();
                case 7: return paidOut;
                default: return prices;
            }
        }

        int keptForAll(int interest) {
            int kept = 0;
            for (int i = 0; i < written; i++) {
                kept += tables.keptWith(widowAt(i), interest);
            }
            return kept;
        }

        int living() {
            int number = 0;
            for (int i = 0; i < written; i++) {
                if (widowAt(i).lives()) {
                    number++;
                }
            }
            return number;
        }

        int agesOfLiving() {
            int ages = 0;
            for (int i = 0; i < written; i++) {
                Widow one = widowAt(i);
                if (one.lives()) {
                    ages += one.age;
                }
            }
            return ages;
        }

        int sumsDue() {
            int sums = 0;
            for (int i = 0; i < written; i++) {
                Widow one = widowAt(i);
                if (one.lives() && one.wait == 0) {
                    sums += one.sum;
                }
            }
            return sums;
        }
    }
}
