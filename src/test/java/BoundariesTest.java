import java.math.BigInteger;

/** The boundary cases that the document's promises 1 to 19 name: both sides of each bound, empty and full. */
public final class BoundariesTest extends Books {
    private static final int[] OUT_OF_0_TO_8 = {-1, 9, -9, 100, MIN, MAX};
    private static final int[] OUT_OF_0_TO_30 = {-1, 31, -30, 100, MIN, MAX};
    private static final int[] OUT_OF_1_TO_50 = {0, 51, -1, -50, 100, MIN, MAX};

    private BoundariesTest() {
    }

    public static void main(String[] args) {
        newBook();
        deathsFromNowOn();
        rateFromNowOn();
        buyPutOff();
        buyWithoutWorth();
        buyRefusesInOrder();
        dieWhatWasKept();
        dieWhoIsNotAlive();
        giveUpWhoIsNotAlive();
        giveUpChangesWhatIsTold();
        putFromLeastToMost();
        worthPutOff();
        priceIs0WithoutWorth();
        toldOfEachState();
        toldRefuses();
        countOfNoneAndAll();
        countRefuses();
        aliveOfAThousand();
        aliveBehind99();
        aliveRefuses();
        passFromLeastToMost();
        passIsNotWhatIsGivenUp();
        foreseeFromLeastToMost();
        foreseeIsWhatComes();
        foreseeOfDeadAndOut();
        foreseeRefuses();
        lastsNowAndNextYear();
        lastsUntilTheLastIs100();
        lastsOnInterest();
        evenOfNone();
        evenFrom0To200();
        affordsFrom0To999();
        affordsMoney();
        affordsWithoutWorth();
        affordsIsTheGreatest();
        meanOfNoneAndTen();
        digestWrapsAround();
        digestOfNegatives();
        Check.end();
    }

    // ---- tables and widows

    private static void newBook() {
        WidowPennies x = new WidowPennies();
        counts("1", x, 0, 0, 0, 0, 0, 0, 0, 0, 0);
        for (int what = 0; what <= 8; what++) {
            int told = what;
            refused(x, "1 nobody is told of, " + what, INDEX, () -> x.told(0, told));
        }
        looks(x, "1 lasts", -1, x::lasts);
        looks(x, "1 even", 0, x::even);
        looks(x, "1 mean", 0.0, x::mean);
        Check.due("1 nobody is paid", 0, () -> x.pass(1));
        Check.due("1 the first has the number 0", 0, () -> x.buy(60, 1, 0));
    }

    private static void deathsFromNowOn() {
        WidowPennies x = plainBook();
        x.buy(98, 10, 0);
        Check.due("2 set", 0, () -> x.setDeaths(99, 500));
        tells("2 kept is less, the price stays", x, 0, 98, 10, 0, 0, 0, 15, 0, 20, 0);
        looks(x, "2 foresee has it too", 5, () -> x.foresee(1, 4));
        Check.due("2 set to what it is", 500, () -> x.setDeaths(99, 500));
        Check.due("2 set back", 500, () -> x.setDeaths(99, 0));
        tells("2 kept is back", x, 0, 98, 10, 0, 0, 0, 20, 0, 20, 0);
        Check.due("2 nobody died of it", 1, () -> x.count(2));
        Check.due("2 even with all deaths", 0, () -> x.setDeaths(98, 1000));
        x.pass(1);
        Check.due("2 a widow lives on", 0, () -> x.told(0, 4));
    }

    private static void rateFromNowOn() {
        WidowPennies x = plainBook();
        x.put(1000);
        x.buy(60, 100, 0);
        x.setRate(1, 50);
        Check.due("3 the load is of now", 4000, () -> x.told(0, 7));
        Check.due("3 the load is for the next", 6000, () -> x.price(60, 100, 0));
        Check.due("3 the load is not kept", 4000, () -> x.told(0, 5));
        x.pass(1);
        Check.due("3 no interest yet", 4900, () -> x.count(3));
        x.setRate(0, 200);
        Check.due("3 nothing comes in as it is set", 4900, () -> x.count(3));
        x.pass(1);
        Check.due("3 interest from now on", 4900 + 980 - 100, () -> x.count(3));
        x.setRate(0, 0);
        x.setRate(2, 50);
        Check.due("3 the charge is of now", 1900, () -> x.told(0, 8));
        x.setRate(2, 0);
        Check.due("3 the charge is of now again", 3800, () -> x.told(0, 8));
    }

    private static void buyPutOff() {
        WidowPennies x = plainBook();
        Check.due("4 put off by 0", 0, () -> x.buy(69, 1, 0));
        Check.due("4 put off by 30", 1, () -> x.buy(69, 1, 30));
        Check.same("4 told", 30, x.told(1, 2));
        for (int putOff : OUT_OF_0_TO_30) {
            refused(x, "4 put off by " + putOff, ARGUMENT, () -> x.buy(69, 1, putOff));
        }
        counts("4 both", x, 0, 2, 2, 32, 32, 0, 1, 0, 32);
    }

    private static void buyWithoutWorth() {
        WidowPennies x = plainBook();
        refused(x, "4 from 100 on", STATE, () -> x.buy(70, 999, 30));
        refused(x, "4 at 99, from 100 on", STATE, () -> x.buy(99, 999, 1));
        Check.due("4 from 99 on", 0, () -> x.buy(69, 999, 30));
        x.setDeaths(99, 1000);
        refused(x, "4 all die at 99", STATE, () -> x.buy(99, 999, 0));
        refused(x, "4 all die ahead of what is put off", STATE, () -> x.buy(69, 999, 30));
        x.setDeaths(99, 999);
        Check.due("4 all but one of a thousand die", 1, () -> x.buy(99, 999, 0));
        Check.same("4 at least 1", 1, x.told(1, 7));
        Check.same("4 kept is 999 of a thousand", 0, x.told(1, 5));
    }

    private static void buyRefusesInOrder() {
        WidowPennies x = plainBook();
        refused(x, "4 sum ahead of worth", ARGUMENT, () -> x.buy(99, 1000, 1));
        refused(x, "4 age ahead of worth", ARGUMENT, () -> x.buy(100, 1, 0));
        refused(x, "4 putOff ahead of worth", ARGUMENT, () -> x.buy(99, 1, 31));
        for (int i = 0; i < 10; i++) {
            x.buy(60, 1, 0);
        }
        refused(x, "4 full", STATE, () -> x.buy(60, 1, 0));
        refused(x, "4 full, without worth", STATE, () -> x.buy(99, 1, 1));
        refused(x, "4 age ahead of full", ARGUMENT, () -> x.buy(49, 1, 0));
        refused(x, "4 sum ahead of full", ARGUMENT, () -> x.buy(60, 0, 0));
        refused(x, "4 putOff ahead of full", ARGUMENT, () -> x.buy(60, 1, -1));
    }

    private static void dieWhatWasKept() {
        WidowPennies x = plainBook();
        x.buy(50, 999, 0);
        x.buy(99, 1, 0);
        x.buy(60, 10, 30);
        Check.due("5 the most", 49950, () -> x.die(0));
        Check.due("5 the least", 1, () -> x.die(1));
        Check.due("5 put off still", 100, () -> x.die(2));
        counts("5 the chest stays", x, 0, 3, 0, 50051, 0, 50051, 0, 0, 50051);
        for (int widow = 0; widow < 3; widow++) {
            Check.same("5 dead " + widow, 1, x.told(widow, 4));
            Check.same("5 got nothing " + widow, 0, x.told(widow, 6));
        }
    }

    private static void dieWhoIsNotAlive() {
        WidowPennies x = plainBook();
        x.buy(98, 1, 0);
        x.buy(60, 1, 0);
        x.buy(60, 1, 0);
        x.pass(2);
        x.giveUp(1);
        refused(x, "5 died at 100", STATE, () -> x.die(0));
        refused(x, "5 is out", STATE, () -> x.die(1));
        Check.due("5 is alive", 38, () -> x.die(2));
        refused(x, "5 is dead", STATE, () -> x.die(2));
        refused(x, "5 was not written", INDEX, () -> x.die(3));
    }

    private static void giveUpWhoIsNotAlive() {
        WidowPennies x = plainBook();
        x.buy(98, 1, 0);
        x.buy(60, 1, 0);
        x.buy(60, 1, 0);
        x.pass(2);
        x.die(1);
        refused(x, "6 died at 100", STATE, () -> x.giveUp(0));
        refused(x, "6 is dead", STATE, () -> x.giveUp(1));
        Check.due("6 is alive", 38, () -> x.giveUp(2));
        refused(x, "6 is out", STATE, () -> x.giveUp(2));
        refused(x, "6 was not written", INDEX, () -> x.giveUp(3));
    }

    private static void giveUpChangesWhatIsTold() {
        WidowPennies x = plainBook();
        x.setRate(2, 10);
        x.buy(60, 10, 1);
        x.pass(2);
        tells("6 ahead", x, 0, 62, 10, 0, 2, 0, 380, 10, 390, 342);
        counts("6 ahead", x, 2, 1, 1, 380, 380, 0, 10, 10, 390);
        Check.due("6 gets", 342, () -> x.giveUp(0));
        tells("6 behind", x, 0, 62, 10, 0, 2, 2, 0, 352, 390, 0);
        counts("6 behind", x, 2, 1, 0, 38, 0, 38, 0, 352, 390);
    }

    private static void putFromLeastToMost() {
        WidowPennies x = plainBook();
        Check.due("7 the least", -99999, () -> x.put(-99999));
        Check.due("7 the most", 0, () -> x.put(99999));
        Check.due("7 nothing", 0, () -> x.put(0));
        for (int sum : new int[] {100000, -100000, MAX, MIN}) {
            refused(x, "7 " + sum, ARGUMENT, () -> x.put(sum));
        }
        counts("7 nothing else", x, 0, 0, 0, 0, 0, 0, 0, 0, 0);
    }

    // ---- what there is

    private static void worthPutOff() {
        WidowPennies x = plainBook();
        looks(x, "8 put off by 0", 31000, () -> x.worth(69, 0));
        looks(x, "8 put off by 30", 1000, () -> x.worth(69, 30));
        looks(x, "8 from 100 on", 0, () -> x.worth(70, 30));
        for (int putOff : OUT_OF_0_TO_30) {
            refused(x, "8 put off by " + putOff, ARGUMENT, () -> x.worth(69, putOff));
        }
    }

    private static void priceIs0WithoutWorth() {
        WidowPennies x = plainBook();
        looks(x, "9 put off by 30", 999, () -> x.price(69, 999, 30));
        looks(x, "9 from 100 on", 0, () -> x.price(70, 999, 30));
        x.setDeaths(99, 999);
        looks(x, "9 a worth of 1", 1, () -> x.price(99, 1, 0));
        x.setDeaths(99, 1000);
        looks(x, "9 a worth of 0", 0, () -> x.price(99, 1, 0));
        for (int putOff : OUT_OF_0_TO_30) {
            refused(x, "9 put off by " + putOff, ARGUMENT, () -> x.price(69, 1, putOff));
        }
        for (int i = 0; i < 10; i++) {
            x.buy(60, 1, 0);
        }
        looks(x, "9 a full book tells prices still", 39, () -> x.price(60, 1, 0));
    }

    private static void toldOfEachState() {
        WidowPennies x = plainBook();
        x.setRate(2, 50);
        x.buy(97, 7, 1);
        x.buy(60, 5, 0);
        x.buy(60, 3, 4);
        tells("10 new", x, 0, 97, 7, 1, 0, 0, 14, 0, 14, 0);
        x.pass(1);
        tells("10 a year", x, 0, 98, 7, 0, 1, 0, 14, 0, 14, 0);
        x.pass(1);
        tells("10 two years", x, 0, 99, 7, 0, 2, 0, 7, 7, 14, 4);
        x.giveUp(1);
        x.die(2);
        x.pass(1);
        tells("10 dead at 100", x, 0, 100, 7, 0, 3, 1, 0, 14, 14, 0);
        tells("10 out", x, 1, 62, 5, 0, 2, 2, 0, 105, 200, 0);
        tells("10 dead ahead of 100", x, 2, 62, 3, 2, 2, 1, 0, 0, 108, 0);
    }

    private static void toldRefuses() {
        WidowPennies x = plainBook();
        x.buy(60, 1, 0);
        looks(x, "10 the first", 60, () -> x.told(0, 0));
        looks(x, "10 the last", 0, () -> x.told(0, 8));
        for (int what : OUT_OF_0_TO_8) {
            refused(x, "10 what " + what, INDEX, () -> x.told(0, what));
            refused(x, "10 no widow, what " + what, INDEX, () -> x.told(1, what));
        }
        refused(x, "10 one behind the last", INDEX, () -> x.told(1, 0));
        refused(x, "10 one ahead of the first", INDEX, () -> x.told(-1, 0));
    }

    private static void countOfNoneAndAll() {
        WidowPennies x = plainBook();
        for (int i = 0; i < 10; i++) {
            x.buy(50, 999, 0);
        }
        counts("11 ten of the dearest", x, 0, 10, 10, 499500, 499500, 0, 9990, 0, 499500);
        x.pass(49);
        counts("11 at 99", x, 49, 10, 10, 9990, 9990, 0, 9990, 489510, 499500);
        x.put(-1);
        counts("11 a penny short", x, 49, 10, 10, 9989, 9990, -1, 9990, 489510, 499500);
        x.pass(1);
        counts("11 at 100", x, 50, 10, 0, -1, 0, -1, 0, 499500, 499500);
        WidowPennies y = plainBook();
        y.buy(60, 5, 1);
        counts("11 who waits still", y, 0, 1, 1, 195, 195, 0, 0, 0, 195);
        y.pass(1);
        counts("11 who waits no longer", y, 1, 1, 1, 195, 195, 0, 5, 0, 195);
    }

    private static void countRefuses() {
        WidowPennies x = plainBook();
        looks(x, "11 the first", 0, () -> x.count(0));
        looks(x, "11 the last", 0, () -> x.count(8));
        for (int what : OUT_OF_0_TO_8) {
            refused(x, "11 what " + what, INDEX, () -> x.count(what));
        }
    }

    private static void aliveOfAThousand() {
        WidowPennies x = plainBook();
        looks(x, "12 behind no year", 1000, () -> x.alive(50, 0));
        x.setDeaths(50, 1000);
        looks(x, "12 all die, but not yet", 1000, () -> x.alive(50, 0));
        looks(x, "12 all die", 0, () -> x.alive(50, 1));
        looks(x, "12 all stay dead", 0, () -> x.alive(50, 2));
        looks(x, "12 who is older lives on", 1000, () -> x.alive(51, 48));
        x.setDeaths(50, 999);
        looks(x, "12 one lives on", 1, () -> x.alive(50, 1));
        looks(x, "12 one lives to 99", 1, () -> x.alive(50, 49));
        x.setDeaths(98, 1);
        looks(x, "12 one is cut to none", 0, () -> x.alive(50, 49));
        looks(x, "12 of a thousand one dies", 999, () -> x.alive(98, 1));
        x.setDeaths(97, 1);
        looks(x, "12 998001 of a million", 998, () -> x.alive(97, 2));
        x.setRate(0, 200);
        looks(x, "12 whatever the interest", 998, () -> x.alive(97, 2));
    }

    private static void aliveBehind99() {
        WidowPennies x = plainBook();
        for (int age : new int[] {50, 51, 75, 98, 99}) {
            looks(x, "12 from " + age + " to 99", 1000, () -> x.alive(age, 99 - age));
            looks(x, "12 from " + age + " to 100", 0, () -> x.alive(age, 100 - age));
            looks(x, "12 from " + age + ", 60 years", 0, () -> x.alive(age, 60));
        }
    }

    private static void aliveRefuses() {
        WidowPennies x = plainBook();
        for (int years : new int[] {-1, 61, -60, 1000, MIN, MAX}) {
            refused(x, "12 years " + years, ARGUMENT, () -> x.alive(50, years));
            refused(x, "12 years " + years + ", age too", ARGUMENT, () -> x.alive(49, years));
        }
        refused(x, "12 age 100, no year", ARGUMENT, () -> x.alive(100, 0));
    }

    // ---- years and what would be

    private static void passFromLeastToMost() {
        WidowPennies x = plainBook();
        x.buy(50, 2, 0);
        Check.due("13 one year", 2, () -> x.pass(1));
        Check.due("13 fifty years", 98, () -> x.pass(50));
        Check.due("13 behind all", 0, () -> x.pass(50));
        Check.due("13 the year", 101, () -> x.count(0));
        for (int years : OUT_OF_1_TO_50) {
            refused(x, "13 years " + years, ARGUMENT, () -> x.pass(years));
        }
        WidowPennies y = plainBook();
        for (int i = 0; i < 10; i++) {
            y.buy(50, 999, 0);
        }
        Check.due("13 the most that can be", 499500, () -> y.pass(50));
    }

    private static void passIsNotWhatIsGivenUp() {
        WidowPennies x = plainBook();
        x.buy(60, 10, 0);
        x.buy(60, 1, 0);
        Check.due("13 both", 22, () -> x.pass(2));
        x.giveUp(0);
        Check.due("13 only the one who stays", 1, () -> x.pass(1));
        Check.due("13 but in all", 22 + 380 + 1, () -> x.count(7));
    }

    private static void foreseeFromLeastToMost() {
        WidowPennies x = plainBook();
        x.buy(50, 2, 0);
        x.buy(51, 3, 30);
        looks(x, "14 one year, alive", 2, () -> x.foresee(1, 2));
        looks(x, "14 one year, chest", 100 + 57 - 2, () -> x.foresee(1, 3));
        looks(x, "14 one year, kept", 98 + 57, () -> x.foresee(1, 4));
        looks(x, "14 one year, the chest less that", 0, () -> x.foresee(1, 5));
        looks(x, "14 one year, sums", 2, () -> x.foresee(1, 6));
        looks(x, "14 one year, paid", 2, () -> x.foresee(1, 7));
        looks(x, "14 thirty years, sums", 5, () -> x.foresee(30, 6));
        looks(x, "14 twenty-nine years, sums", 2, () -> x.foresee(29, 6));
        looks(x, "14 forty-eight years, alive", 2, () -> x.foresee(48, 2));
        looks(x, "14 forty-nine years, alive", 1, () -> x.foresee(49, 2));
        looks(x, "14 fifty years, alive", 0, () -> x.foresee(50, 2));
        looks(x, "14 fifty years, chest", 0, () -> x.foresee(50, 3));
        looks(x, "14 fifty years, kept", 0, () -> x.foresee(50, 4));
        looks(x, "14 fifty years, sums", 0, () -> x.foresee(50, 6));
        looks(x, "14 fifty years, paid", 157, () -> x.foresee(50, 7));
    }

    /** What is foreseen for 1 to 50 years is what another book has, whose years go by. */
    private static void foreseeIsWhatComes() {
        for (int what = 2; what <= 7; what++) {
            WidowPennies x = busyBook();
            WidowPennies y = busyBook();
            for (int years = 1; years <= 50; years++) {
                y.pass(1);
                Check.same("14 foresee(" + years + ", " + what + ")", y.count(what), x.foresee(years, what));
            }
        }
    }

    private static WidowPennies busyBook() {
        WidowPennies x = new WidowPennies();
        x.put(3000);
        x.buy(50, 30, 0);
        x.buy(70, 200, 3);
        x.buy(85, 90, 0);
        x.buy(60, 70, 10);
        x.pass(2);
        x.die(2);
        x.buy(98, 400, 0);
        return x;
    }

    private static void foreseeOfDeadAndOut() {
        WidowPennies x = plainBook();
        x.buy(60, 1, 0);
        x.buy(60, 10, 0);
        x.buy(60, 100, 0);
        x.pass(2);
        x.die(0);
        x.giveUp(1);
        looks(x, "14 only who is alive", 1, () -> x.foresee(1, 2));
        looks(x, "14 only she is paid", 222 + 380 + 100, () -> x.foresee(1, 7));
        x.die(2);
        looks(x, "14 nobody", 0, () -> x.foresee(50, 2));
        looks(x, "14 nobody is paid", 222 + 380, () -> x.foresee(50, 7));
        looks(x, "14 the chest stays", 111 * 40 - 222 - 380, () -> x.foresee(50, 3));
        WidowPennies y = fullBook();
        y.setRate(0, 200);
        looks(y, "14 the chest has a most", FULL, () -> y.foresee(50, 3));
        WidowPennies z = plainBook();
        z.setRate(0, 200);
        z.put(-7);
        looks(z, "14 no interest below 0", -7, () -> z.foresee(50, 3));
    }

    private static void foreseeRefuses() {
        WidowPennies x = plainBook();
        x.buy(60, 1, 0);
        for (int years : OUT_OF_1_TO_50) {
            refused(x, "14 years " + years, ARGUMENT, () -> x.foresee(years, 2));
            refused(x, "14 years " + years + " ahead of what", ARGUMENT, () -> x.foresee(years, 1));
        }
        for (int what : new int[] {1, 8, 0, -1, 9, MIN, MAX}) {
            refused(x, "14 what " + what, INDEX, () -> x.foresee(1, what));
            refused(x, "14 what " + what + " behind fifty years", INDEX, () -> x.foresee(50, what));
        }
    }

    private static void lastsNowAndNextYear() {
        WidowPennies x = plainBook();
        looks(x, "15 nothing in it, nobody", -1, x::lasts);
        x.put(-1);
        looks(x, "15 less than 0, nobody", 0, x::lasts);
        x.buy(98, 1, 0);
        looks(x, "15 for 1 year", 2, x::lasts);
        x.put(-1);
        looks(x, "15 0 is not less than 0", 1, x::lasts);
        x.put(-1);
        looks(x, "15 now", 0, x::lasts);
        x.put(3);
        looks(x, "15 for 2 years, and no more is due", -1, x::lasts);
        x.die(0);
        x.put(-2);
        looks(x, "15 the dead are not paid", -1, x::lasts);
        x.put(-1);
        looks(x, "15 nobody is paid, but now", 0, x::lasts);
    }

    private static void lastsUntilTheLastIs100() {
        WidowPennies x = plainBook();
        x.buy(50, 1, 0);
        for (int chest = 50; chest >= 0; chest--) {
            int years = chest == 50 ? -1 : chest + 1;
            looks(x, "15 " + chest + " pennies", years, x::lasts);
            x.put(-1);
        }
        looks(x, "15 no penny and one less", 0, x::lasts);
        WidowPennies y = plainBook();
        y.buy(50, 10, 30);
        y.put(-200);
        looks(y, "15 all wait for thirty years", 31, y::lasts);
        y.put(199);
        looks(y, "15 the last penny in the fiftieth", 50, y::lasts);
        y.put(1);
        looks(y, "15 just all of it", -1, y::lasts);
    }

    private static void lastsOnInterest() {
        WidowPennies x = bookOnInterest(1000);
        looks(x, "15 interest pays it all", -1, x::lasts);
        WidowPennies y = bookOnInterest(500);
        // 450, 395, 334, 267, 193, 112, 23, -75
        looks(y, "15 interest pays half of it", 8, y::lasts);
        WidowPennies z = fullBook();
        looks(z, "15 a full chest", -1, z::lasts);
        for (int chest = 0; chest <= 1000; chest += 20) {
            int want = yearsUntilBelow0(bookOnInterest(chest));
            Check.same("15 interest on " + chest, want, bookOnInterest(chest).lasts());
        }
    }

    private static int yearsUntilBelow0(WidowPennies x) {
        for (int years = 0; years <= 60; years++) {
            if (x.count(3) < 0) {
                return years;
            }
            x.pass(1);
        }
        return -1;
    }

    private static WidowPennies bookOnInterest(int chest) {
        WidowPennies x = plainBook();
        x.buy(50, 100, 0);
        x.put(chest - x.count(3));
        x.setRate(0, 100);
        return x;
    }

    private static void evenOfNone() {
        WidowPennies x = plainBook();
        looks(x, "16 nothing, nobody", 0, x::even);
        x.put(-1);
        looks(x, "16 less than 0", -1, x::even);
        x.setDeaths(99, 999);
        x.buy(99, 1, 0);
        looks(x, "16 0, and 0 would be kept", 0, x::even);
        x.put(-1);
        looks(x, "16 less than 0, and 0 would be kept", -1, x::even);
        WidowPennies y = fullBook();
        y.buy(50, 999, 0);
        y.setRate(0, 200);
        looks(y, "16 a full chest", 0, y::even);
        x.put(1);
        x.pass(1);
        looks(x, "16 the dead are not kept for", -1, x::even);
        x.put(1);
        looks(x, "16 as much as nothing", 0, x::even);
    }

    /** Each interest that is the least for some chest, just there and a penny below. */
    private static void evenFrom0To200() {
        WidowPennies tried = keptBook();
        int[] kept = new int[201];
        for (int interest = 0; interest <= 200; interest++) {
            tried.setRate(0, interest);
            kept[interest] = tried.count(4);
        }
        WidowPennies x = keptBook();
        int chest = x.count(3);
        for (int interest = 0; interest <= 200; interest++) {
            chest = x.put(kept[interest] - chest);
            Check.same("16 chest " + kept[interest], leastEven(kept, kept[interest]), x.even());
        }
        x.put(-1);
        looks(x, "16 a penny less than with 200", -1, x::even);
        x.put(1);
        looks(x, "16 as much as with 200", leastEven(kept, kept[200]), x::even);
        x.put(kept[0] - kept[200]);
        looks(x, "16 as much as with 0", 0, x::even);
        x.put(-1);
        looks(x, "16 a penny less than with 0", leastEven(kept, kept[0] - 1), x::even);
        Check.same("16 which is more than 0", true, leastEven(kept, kept[0] - 1) > 0);
        Check.same("16 200 is the least for its chest", 200, leastEven(kept, kept[200]));
    }

    private static WidowPennies keptBook() {
        WidowPennies x = new WidowPennies();
        x.buy(50, 999, 0);
        x.buy(60, 500, 10);
        x.buy(80, 700, 2);
        x.buy(95, 999, 0);
        return x;
    }

    private static int leastEven(int[] kept, int chest) {
        for (int interest = 0; interest <= 200; interest++) {
            if (chest >= kept[interest]) {
                return interest;
            }
        }
        return -1;
    }

    private static void affordsFrom0To999() {
        WidowPennies x = plainBook();
        looks(x, "17 a penny short of 1", 0, () -> x.affords(98, 0, 1));
        looks(x, "17 just 1", 1, () -> x.affords(98, 0, 2));
        looks(x, "17 a penny short of 2", 1, () -> x.affords(98, 0, 3));
        looks(x, "17 a penny short of 512", 511, () -> x.affords(98, 0, 1023));
        looks(x, "17 just 512", 512, () -> x.affords(98, 0, 1024));
        looks(x, "17 a penny short of 999", 998, () -> x.affords(98, 0, 1997));
        looks(x, "17 just 999", 999, () -> x.affords(98, 0, 1998));
        looks(x, "17 enough for 1000", 999, () -> x.affords(98, 0, 2000));
        x.setRate(1, 50);
        looks(x, "17 a penny short, with the load", 0, () -> x.affords(50, 0, 74));
        looks(x, "17 just 1, with the load", 1, () -> x.affords(50, 0, 75));
        looks(x, "17 the dearest", 999, () -> x.affords(50, 0, 74925));
        looks(x, "17 a penny short of the dearest", 998, () -> x.affords(50, 0, 74924));
    }

    private static void affordsMoney() {
        WidowPennies x = plainBook();
        looks(x, "17 money 1", 1, () -> x.affords(99, 0, 1));
        looks(x, "17 money 99999", 999, () -> x.affords(99, 0, 99999));
        looks(x, "17 put off by 30", 5, () -> x.affords(69, 30, 5));
        for (int money : new int[] {0, 100000, -1, -99999, MIN, MAX}) {
            refused(x, "17 money " + money, ARGUMENT, () -> x.affords(99, 0, money));
        }
        for (int putOff : OUT_OF_0_TO_30) {
            refused(x, "17 put off by " + putOff, ARGUMENT, () -> x.affords(69, putOff, 1));
        }
        for (int i = 0; i < 10; i++) {
            x.buy(99, 1, 0);
        }
        looks(x, "17 a full book tells it still", 7, () -> x.affords(99, 0, 7));
    }

    private static void affordsWithoutWorth() {
        WidowPennies x = plainBook();
        looks(x, "17 from 99 on", 999, () -> x.affords(69, 30, 99999));
        looks(x, "17 from 100 on", 0, () -> x.affords(70, 30, 99999));
        x.setDeaths(99, 999);
        looks(x, "17 a worth of 1", 999, () -> x.affords(99, 0, 1));
        x.setDeaths(99, 998);
        looks(x, "17 a worth of 2", 999, () -> x.affords(99, 0, 1));
        x.setDeaths(99, 997);
        looks(x, "17 a worth of 3", 666, () -> x.affords(99, 0, 1));
        x.setDeaths(99, 1000);
        looks(x, "17 a worth of 0", 0, () -> x.affords(99, 0, 1));
        looks(x, "17 a worth of 0, all money", 0, () -> x.affords(99, 0, 99999));
    }

    private static void affordsIsTheGreatest() {
        for (int load : new int[] {0, 1, 7, 50}) {
            WidowPennies x = new WidowPennies();
            x.setRate(1, load);
            for (int money = 1; money <= 99999; money = money * 3 / 2 + 1) {
                for (int putOff = 0; putOff <= 6; putOff += 3) {
                    int sum = x.affords(62, putOff, money);
                    String what = "17 affords(62, " + putOff + ", " + money + ") is " + sum + ", ";
                    Check.same(what + "which it pays", true, sum == 0 || x.price(62, sum, putOff) <= money);
                    Check.same(what + "and no more", true, sum == 999 || x.price(62, sum + 1, putOff) > money);
                }
            }
        }
    }

    private static void meanOfNoneAndTen() {
        WidowPennies x = plainBook();
        looks(x, "18 nobody was written", 0.0, x::mean);
        for (int i = 0; i < 10; i++) {
            x.buy(i < 3 ? 50 : 51, 1, 0);
        }
        looks(x, "18 ten", 507.0 / 10, x::mean);
        x.pass(1);
        looks(x, "18 a year on", 517.0 / 10, x::mean);
        for (int i = 3; i < 6; i++) {
            x.die(i);
        }
        looks(x, "18 seven", (3 * 51 + 4 * 52) / 7.0, x::mean);
        x.pass(47);
        looks(x, "18 just ahead of 100", (3 * 98 + 4 * 99) / 7.0, x::mean);
        x.pass(1);
        looks(x, "18 who is 100 is left out", 99.0, x::mean);
        x.giveUp(0);
        x.die(1);
        looks(x, "18 one", 99.0, x::mean);
        x.pass(1);
        looks(x, "18 nobody is alive", 0.0, x::mean);
    }

    /** d by whole numbers without an end, wrapped once at last. */
    private static long wrapped(WidowPennies x, int... ratesAndDeaths) {
        BigInteger d = BigInteger.valueOf(1667);
        for (int what = 0; what <= 8; what++) {
            d = fold(d, x.count(what));
        }
        for (int each : ratesAndDeaths) {
            d = fold(d, each);
        }
        for (int widow = 0; widow < x.count(1); widow++) {
            for (int what = 0; what <= 8; what++) {
                d = fold(d, x.told(widow, what));
            }
        }
        return d.longValue();
    }

    private static BigInteger fold(BigInteger d, int x) {
        return d.multiply(BigInteger.valueOf(31)).add(BigInteger.valueOf(x));
    }

    private static int[] ratesAndDeathsAtFirst() {
        int[] rows = new int[53];
        rows[0] = 40;
        rows[1] = 5;
        rows[2] = 10;
        for (int i = 0; i < 50; i++) {
            rows[3 + i] = 10 + 8 * i;
        }
        return rows;
    }

    private static void digestWrapsAround() {
        int[] rows = ratesAndDeathsAtFirst();
        for (int widows = 0; widows <= 10; widows++) {
            WidowPennies x = new WidowPennies();
            for (int i = 0; i < widows; i++) {
                x.buy(50 + 4 * i, 100 * i + 99, i);
            }
            Check.due("19 of " + widows, wrapped(x, rows), x::digest);
        }
    }

    private static void digestOfNegatives() {
        int[] rows = ratesAndDeathsAtFirst();
        WidowPennies x = new WidowPennies();
        x.buy(60, 10, 0);
        x.buy(60, 20, 3);
        x.buy(98, 20, 0);
        x.pass(2);
        x.put(-99999);
        Check.due("19 a chest below 0", wrapped(x, rows), x::digest);
        x.giveUp(0);
        x.die(1);
        Check.due("19 dead and out", wrapped(x, rows), x::digest);
        long before = x.digest();
        x.setRate(0, 41);
        x.setRate(0, 40);
        x.setDeaths(77, 0);
        x.setDeaths(77, rows[3 + 27]);
        Check.due("19 set and set back", before, x::digest);
    }
}
