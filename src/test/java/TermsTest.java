/** The boundary cases that the document's 'Terms' name: a test for each sentence, both sides of each bound. */
public final class TermsTest extends Books {
    private TermsTest() {
    }

    public static void main(String[] args) {
        all512Calls();
        moneyIsCutTowardsZero();
        agesAre50To99();
        deathsAre0To1000();
        deathsAtFirst();
        ratesAndWhatTheyAreAtFirst();
        worthAt100Is0();
        worthIsCutInEachYear();
        worthWithEndsOfDeathsAndInterest();
        worthPutOff();
        priceIsCutTwice();
        priceIsAtLeast1();
        atMost10Widows();
        widowsAreNumberedFrom0();
        sumsAre1To999();
        keptForOneWhoIsAlive();
        chestIsLessThan0();
        chestHasAMost();
        chestIsFilledByAPrice();
        chestIsFilledByInterest();
        interestOfALargeChest();
        noInterestBelow0();
        noneLeftToWaitAsTheYearBegins();
        whoIs100ThenDies();
        yearIs1Greater();
        boughtTwoYearsAgoOrMore();
        chargeIsCut();
        allExceptionsOfOneCall();
        objectsAreApart();
        Check.end();
    }

    /** "An object is used for at most 512 calls": the 512th is answered still. */
    private static void all512Calls() {
        WidowPennies x = new WidowPennies();
        for (int i = 1; i < 512; i++) {
            x.put(-99999);
        }
        Check.due("terms: the 512th call", -99999 * 512, () -> x.put(-99999));
        WidowPennies y = new WidowPennies();
        for (int i = 1; i < 512; i++) {
            y.pass(50);
        }
        Check.due("terms: the 512th call, years", 511 * 50, () -> y.count(0));
    }

    private static void moneyIsCutTowardsZero() {
        WidowPennies x = plainBook();
        x.setDeaths(99, 1);
        Check.due("cut: worth 999, of a sum of 2 is 1", 1, () -> x.price(99, 2, 0));
        x.buy(99, 2, 0);
        Check.due("cut: what is kept", 1, () -> x.told(0, 5));
        x.put(-2);
        Check.due("cut: the chest less what is kept is less than 0", -2, () -> x.count(5));
    }

    private static void agesAre50To99() {
        WidowPennies x = plainBook();
        for (int age : new int[] {50, 99}) {
            int years = 100 - age;
            Check.due("ages: setDeaths " + age, 0, () -> x.setDeaths(age, 0));
            Check.due("ages: worth " + age, years * 1000, () -> x.worth(age, 0));
            Check.due("ages: price " + age, years * 2, () -> x.price(age, 2, 0));
            Check.due("ages: alive " + age, 1000, () -> x.alive(age, 0));
            Check.due("ages: affords " + age, 3, () -> x.affords(age, 0, 3 * years));
            Check.due("ages: buy " + age, age == 50 ? 0 : 1, () -> x.buy(age, 1, 0));
        }
        for (int age : new int[] {49, 100, -50, 0, 1000, MIN, MAX}) {
            refused(x, "ages: setDeaths " + age, INDEX, () -> x.setDeaths(age, 0));
            refused(x, "ages: worth " + age, ARGUMENT, () -> x.worth(age, 0));
            refused(x, "ages: price " + age, ARGUMENT, () -> x.price(age, 1, 0));
            refused(x, "ages: alive " + age, ARGUMENT, () -> x.alive(age, 0));
            refused(x, "ages: affords " + age, ARGUMENT, () -> x.affords(age, 0, 1));
            refused(x, "ages: buy " + age, ARGUMENT, () -> x.buy(age, 1, 0));
        }
    }

    private static void deathsAre0To1000() {
        WidowPennies x = plainBook();
        for (int age : new int[] {50, 75, 99}) {
            Check.due("deaths: 1000 at " + age, 0, () -> x.setDeaths(age, 1000));
            Check.due("deaths: none lives on at " + age, 0, () -> x.worth(age, 0));
            refused(x, "deaths: 1001 at " + age, ARGUMENT, () -> x.setDeaths(age, 1001));
            refused(x, "deaths: -1 at " + age, ARGUMENT, () -> x.setDeaths(age, -1));
            Check.due("deaths: 0 at " + age, 1000, () -> x.setDeaths(age, 0));
            Check.due("deaths: 0 is kept at " + age, 0, () -> x.setDeaths(age, 0));
        }
    }

    private static void deathsAtFirst() {
        WidowPennies x = new WidowPennies();
        Check.due("deaths at first: 10 at 50", 10, () -> x.setDeaths(50, 10));
        Check.due("deaths at first: 18 at 51", 18, () -> x.setDeaths(51, 18));
        Check.due("deaths at first: 394 at 98", 394, () -> x.setDeaths(98, 394));
        Check.due("deaths at first: 402 at 99", 402, () -> x.setDeaths(99, 402));
    }

    private static void ratesAndWhatTheyAreAtFirst() {
        int[] atFirst = {40, 5, 10};
        int[] most = {200, 50, 50};
        WidowPennies x = new WidowPennies();
        for (int i = 0; i < 3; i++) {
            int what = i;
            Check.due("rates: " + what + " at first", atFirst[what], () -> x.setRate(what, most[what]));
            refused(x, "rates: " + what + " over the most", ARGUMENT, () -> x.setRate(what, most[what] + 1));
            Check.due("rates: " + what + " has the most", most[what], () -> x.setRate(what, 0));
            refused(x, "rates: " + what + " below 0", ARGUMENT, () -> x.setRate(what, -1));
            Check.due("rates: " + what + " has 0", 0, () -> x.setRate(what, 1));
        }
        refused(x, "rates: only the interest goes to 200", ARGUMENT, () -> x.setRate(1, 200));
        refused(x, "rates: the charge does not", ARGUMENT, () -> x.setRate(2, 200));
    }

    /** "At the age 100 or more it is 0": nothing is added behind 99. */
    private static void worthAt100Is0() {
        WidowPennies x = plainBook();
        Check.due("worth: 99 has one year", 1000, () -> x.worth(99, 0));
        Check.due("worth: 98 has two years", 2000, () -> x.worth(98, 0));
        Check.due("worth: 99 put off to 100", 0, () -> x.worth(99, 1));
        Check.due("worth: 98 put off to 99", 1000, () -> x.worth(98, 1));
        Check.due("worth: 98 put off to 100", 0, () -> x.worth(98, 2));
        Check.due("worth: 69 put off to 99", 1000, () -> x.worth(69, 30));
        Check.due("worth: 70 put off to 100", 0, () -> x.worth(70, 30));
        Check.due("worth: 99 put off to 129", 0, () -> x.worth(99, 30));
    }

    private static void worthIsCutInEachYear() {
        WidowPennies x = plainBook();
        x.setRate(0, 1);
        // 1000000 / 1001 = 999; 1000 * 1999 / 1001 = 1997; 1000 * 2997 / 1001 = 2994, each cut
        Check.due("worth: cut at 99", 999, () -> x.worth(99, 0));
        Check.due("worth: cut at 98", 1997, () -> x.worth(98, 0));
        Check.due("worth: cut at 97", 2994, () -> x.worth(97, 0));
        Check.due("worth: cut at 97, put off", 1995, () -> x.worth(97, 1));
        Check.due("worth: cut at 97, put off by 2", 997, () -> x.worth(97, 2));
        x.setRate(0, 0);
        x.setDeaths(99, 999);
        Check.due("worth: the least", 1, () -> x.worth(99, 0));
        Check.due("worth: the least, put off", 1, () -> x.worth(98, 1));
        x.setDeaths(98, 1);
        Check.due("worth: cut to 0", 0, () -> x.worth(98, 1));
        Check.due("worth: not yet at 99", 1, () -> x.worth(99, 0));
        Check.due("worth: cut to 0 has no price", 0, () -> x.price(98, 999, 1));
        Check.due("worth: cut to 0 affords nothing", 0, () -> x.affords(98, 1, 99999));
        refused(x, "worth: cut to 0 is not bought", STATE, () -> x.buy(98, 999, 1));
    }

    private static void worthWithEndsOfDeathsAndInterest() {
        WidowPennies x = plainBook();
        Check.due("worth: the greatest", 50000, () -> x.worth(50, 0));
        x.setRate(0, 200);
        Check.due("worth: interest 200 at 99", 833, () -> x.worth(99, 0));
        Check.due("worth: interest 200 at 98", 1527, () -> x.worth(98, 0));
        x.setDeaths(98, 1000);
        Check.due("worth: deaths are those of the age", 0, () -> x.worth(98, 0));
        Check.due("worth: those of the age ahead are not", 833, () -> x.worth(99, 0));
        Check.due("worth: none comes through 98", 833, () -> x.worth(97, 0));
        Check.due("worth: none comes through 98, put off", 0, () -> x.worth(97, 1));
        Check.due("worth: the sum itself goes through the age's deaths", 0, () -> x.worth(98, 1));
    }

    private static void worthPutOff() {
        WidowPennies x = plainBook();
        Check.due("put off: 0", 50000, () -> x.worth(50, 0));
        Check.due("put off: 1", 49000, () -> x.worth(50, 1));
        Check.due("put off: 30", 20000, () -> x.worth(50, 30));
        refused(x, "put off: 31", ARGUMENT, () -> x.worth(50, 31));
        refused(x, "put off: -1", ARGUMENT, () -> x.worth(50, -1));
    }

    private static void priceIsCutTwice() {
        WidowPennies x = plainBook();
        x.setRate(1, 5);
        Check.due("price: 5 percent of 19 are none", 19, () -> x.price(99, 19, 0));
        Check.due("price: 5 percent of 20 are 1", 21, () -> x.price(99, 20, 0));
        Check.due("price: 5 percent of 39 are 1", 40, () -> x.price(99, 39, 0));
        x.setDeaths(99, 500);
        Check.due("price: 20 is what is cut of 41", 21, () -> x.price(99, 41, 0));
        Check.due("price: 19 is what is cut of 39", 19, () -> x.price(99, 39, 0));
        x.setDeaths(99, 0);
        x.setRate(1, 50);
        Check.due("price: half of 999", 999 + 499, () -> x.price(99, 999, 0));
        x.setRate(1, 0);
        Check.due("price: no load", 999, () -> x.price(99, 999, 0));
    }

    private static void priceIsAtLeast1() {
        WidowPennies x = plainBook();
        x.setDeaths(99, 997);
        Check.due("price: 0 would be 1", 1, () -> x.price(99, 1, 0));
        Check.due("price: 999 of a thousand", 1, () -> x.price(99, 333, 0));
        Check.due("price: 1002 of a thousand", 1, () -> x.price(99, 334, 0));
        Check.due("price: 1998 of a thousand", 1, () -> x.price(99, 666, 0));
        Check.due("price: 2001 of a thousand", 2, () -> x.price(99, 667, 0));
        x.setRate(1, 50);
        Check.due("price: 0 with a load is 1", 1, () -> x.price(99, 1, 0));
        Check.due("price: 1 with a load is 1", 1, () -> x.price(99, 334, 0));
        Check.due("price: 2 with a load is 3", 3, () -> x.price(99, 667, 0));
        Check.due("price: she who buys pays it", 0, () -> x.buy(99, 1, 0));
        tells("price: she who buys pays it", x, 0, 99, 1, 0, 0, 0, 0, 0, 1, 0);
        counts("price: she who buys pays it", x, 0, 1, 1, 1, 0, 1, 1, 0, 1);
    }

    /** "At most 10 can be written in all": the dead and those who are out are among them. */
    private static void atMost10Widows() {
        WidowPennies x = plainBook();
        for (int i = 0; i < 9; i++) {
            x.buy(60, 1, 0);
        }
        x.pass(2);
        x.die(0);
        x.giveUp(1);
        Check.due("widows: the tenth", 9, () -> x.buy(60, 1, 0));
        counts("widows: ten", x, 2, 10, 8);
        refused(x, "widows: the eleventh", STATE, () -> x.buy(60, 1, 0));
        x.pass(50);
        Check.due("widows: all are dead", 0, () -> x.count(2));
        refused(x, "widows: and none is written", STATE, () -> x.buy(60, 1, 0));
        refused(x, "widows: with a worth of 0 neither", STATE, () -> x.buy(99, 1, 30));
        Check.due("widows: ten are written", 10, () -> x.count(1));
    }

    private static void widowsAreNumberedFrom0() {
        WidowPennies x = plainBook();
        for (int number : new int[] {0, -1, 9, MIN, MAX}) {
            refused(x, "numbers: nobody yet, told " + number, INDEX, () -> x.told(number, 0));
            refused(x, "numbers: nobody yet, die " + number, INDEX, () -> x.die(number));
            refused(x, "numbers: nobody yet, giveUp " + number, INDEX, () -> x.giveUp(number));
        }
        for (int i = 0; i < 10; i++) {
            int number = i;
            refused(x, "numbers: not yet " + number, INDEX, () -> x.told(number, 1));
            Check.due("numbers: buy " + number, number, () -> x.buy(60, number + 1, 0));
            Check.due("numbers: told " + number, number + 1, () -> x.told(number, 1));
        }
        x.pass(2);
        Check.due("numbers: the first dies", 38, () -> x.die(0));
        Check.due("numbers: the last gives up", 380, () -> x.giveUp(9));
        for (int number : new int[] {10, 11, -1, MIN, MAX}) {
            refused(x, "numbers: of ten, told " + number, INDEX, () -> x.told(number, 0));
            refused(x, "numbers: of ten, die " + number, INDEX, () -> x.die(number));
            refused(x, "numbers: of ten, giveUp " + number, INDEX, () -> x.giveUp(number));
        }
    }

    private static void sumsAre1To999() {
        WidowPennies x = plainBook();
        Check.due("sums: buy 1", 0, () -> x.buy(99, 1, 0));
        Check.due("sums: buy 999", 1, () -> x.buy(99, 999, 0));
        Check.due("sums: price of 1", 1, () -> x.price(99, 1, 0));
        Check.due("sums: price of 999", 999, () -> x.price(99, 999, 0));
        for (int sum : new int[] {0, 1000, -1, -999, MIN, MAX}) {
            refused(x, "sums: buy " + sum, ARGUMENT, () -> x.buy(99, sum, 0));
            refused(x, "sums: price of " + sum, ARGUMENT, () -> x.price(99, sum, 0));
        }
    }

    private static void keptForOneWhoIsAlive() {
        WidowPennies x = plainBook();
        x.setDeaths(99, 500);
        x.buy(99, 3, 0);
        Check.due("kept: 1500 of a thousand", 1, () -> x.told(0, 5));
        x.buy(98, 3, 1);
        Check.due("kept: put off", 1, () -> x.told(1, 5));
        Check.due("kept: for all, each cut by herself", 2, () -> x.count(4));
        x.setRate(0, 200);
        Check.due("kept: with the interest of now", 1, () -> x.told(0, 5));
        x.setDeaths(99, 1000);
        Check.due("kept: with the deaths of now", 0, () -> x.told(0, 5));
        Check.due("kept: nothing, as she dies", 0, () -> x.die(0));
        x.setDeaths(99, 0);
        Check.due("kept: nothing for the dead", 0, () -> x.told(0, 5));
        Check.due("kept: 3 * 694 / 1000", 2, () -> x.count(4));
        x.pass(1);
        Check.due("kept: 3 * 833 / 1000, she waits no longer", 2, () -> x.told(1, 5));
        x.pass(1);
        Check.due("kept: nothing at 100", 0, () -> x.told(1, 5));
    }

    private static void chestIsLessThan0() {
        WidowPennies x = plainBook();
        Check.due("chest: 0 at first", 0, () -> x.count(3));
        Check.due("chest: put below 0", -1, () -> x.put(-1));
        x.buy(97, 1, 0);
        Check.due("chest: a price comes in", 2, () -> x.count(3));
        Check.due("chest: paid out to 0", 2, () -> x.pass(2));
        Check.due("chest: 0", 0, () -> x.count(3));
        Check.due("chest: paid out below 0", 1, () -> x.pass(1));
        Check.due("chest: -1", -1, () -> x.count(3));
        WidowPennies y = plainBook();
        y.buy(60, 10, 0);
        y.pass(2);
        y.put(-380);
        Check.due("chest: given out below 0", 380, () -> y.giveUp(0));
        Check.due("chest: -380", -380, () -> y.count(3));
    }

    private static void chestHasAMost() {
        WidowPennies x = fullBook();
        Check.due("most: one comes out", FULL - 1, () -> x.put(-1));
        Check.due("most: one comes in", FULL, () -> x.put(1));
        Check.due("most: one more is given away", FULL, () -> x.put(1));
        Check.due("most: what was given away is gone", FULL - 1, () -> x.put(-1));
        Check.due("most: the second of two is given away", FULL, () -> x.put(2));
        Check.due("most: nothing comes in", FULL, () -> x.put(0));
        Check.due("most: all that one call can take", FULL - 99999, () -> x.put(-99999));
        Check.due("most: a penny short", FULL - 1, () -> x.put(99998));
        Check.due("most: all that one call can put", FULL, () -> x.put(99999));
    }

    private static void chestIsFilledByAPrice() {
        WidowPennies x = fullBook();
        x.put(-10);
        x.buy(99, 9, 0);
        Check.due("most: a price leaves a penny's room", FULL - 1, () -> x.count(3));
        x.buy(99, 1, 0);
        Check.due("most: a price fills it", FULL, () -> x.count(3));
        x.put(-10);
        x.buy(99, 11, 0);
        Check.due("most: a price's penny is given away", FULL, () -> x.count(3));
        Check.due("most: she paid it whole", 11, () -> x.told(2, 7));
        Check.due("most: prices are added whole", 21, () -> x.count(8));
    }

    private static void chestIsFilledByInterest() {
        WidowPennies x = fullBook();
        x.setRate(0, 1);
        x.put(-99999);
        x.put(98);
        // 99900098 and 99900: a penny short
        x.pass(1);
        Check.due("most: interest leaves a penny's room", FULL - 1, () -> x.count(3));
        x.put(-99999);
        x.put(100);
        // 99900099 and 99900: just the most
        Check.due("most: ahead of the interest", 99900099, () -> x.count(3));
        x.pass(1);
        Check.due("most: interest fills it", FULL, () -> x.count(3));
        x.put(-99899);
        x.buy(60, 10, 0);
        // 99900500 and 99900, cut to the most, less 10
        Check.due("most: interest is given away, the sum is not saved", 10, () -> x.pass(1));
        Check.due("most: paid out of the full chest", FULL - 10, () -> x.count(3));
        x.setRate(0, 200);
        Check.due("most: at the greatest interest", 20, () -> x.pass(2));
        Check.due("most: paid out of the full chest again", FULL - 10, () -> x.count(3));
    }

    /** The chest times the interest goes beyond 32 bits. */
    private static void interestOfALargeChest() {
        for (int interest : new int[] {200, 199, 101}) {
            WidowPennies x = plainBook();
            x.setRate(0, interest);
            long want = x.put(99999);
            for (int year = 1; year <= 90; year++) {
                want = Math.min(FULL, want + want * interest / 1000);
                x.pass(1);
                Check.same("interest " + interest + " of year " + year, want, x.count(3));
            }
            Check.same("interest " + interest + " fills the chest", (long) FULL, want);
        }
    }

    private static void noInterestBelow0() {
        int[] chests = {-99999, -1000, -5, -1, 0, 1, 4, 5, 9, 10};
        int[] behind = {-99999, -1000, -5, -1, 0, 1, 4, 6, 10, 12};
        for (int i = 0; i < chests.length; i++) {
            WidowPennies x = new WidowPennies();
            x.setRate(0, 200);
            x.put(chests[i]);
            x.pass(1);
            Check.same("interest of " + chests[i], behind[i], x.count(3));
        }
        WidowPennies y = new WidowPennies();
        y.setRate(0, 0);
        y.put(99999);
        y.pass(50);
        Check.due("interest of 0", 99999, () -> y.count(3));
    }

    private static void noneLeftToWaitAsTheYearBegins() {
        WidowPennies x = plainBook();
        x.buy(60, 1, 0);
        x.buy(60, 10, 1);
        x.buy(60, 100, 2);
        x.buy(50, 900, 30);
        Check.due("wait: 0 is paid at once", 1, () -> x.pass(1));
        Check.due("wait: 1 is 0 now", 0, () -> x.told(1, 2));
        Check.due("wait: 1 got nothing", 0, () -> x.told(1, 6));
        Check.due("wait: 2 is 1 now", 1, () -> x.told(2, 2));
        Check.due("wait: who waits no longer", 11, () -> x.count(6));
        Check.due("wait: 1 is paid in the second year", 11, () -> x.pass(1));
        Check.due("wait: 0 stays 0", 0, () -> x.told(0, 2));
        Check.due("wait: 2 is paid in the third year", 111, () -> x.pass(1));
        Check.due("wait: 30 is 27 now", 27, () -> x.told(3, 2));
        Check.due("wait: 30 waits to the thirtieth", 27 * 111, () -> x.pass(27));
        Check.due("wait: 30 is 0 now", 0, () -> x.told(3, 2));
        Check.due("wait: 30 is among the sums", 1011, () -> x.count(6));
        Check.due("wait: 30 is paid in the thirty-first", 1011, () -> x.pass(1));
    }

    private static void whoIs100ThenDies() {
        WidowPennies x = plainBook();
        x.buy(98, 10, 0);
        x.buy(99, 5, 0);
        x.buy(50, 1, 0);
        Check.due("100: she gets her last sum", 16, () -> x.pass(1));
        tells("100: at 99 she is alive", x, 0, 99, 10, 0, 1, 0, 10, 10, 20, 0);
        tells("100: at 100 she is dead", x, 1, 100, 5, 0, 1, 1, 0, 5, 5, 0);
        counts("100: one is dead", x, 1, 3, 2, 59, 59, 0, 11, 16, 75);
        refused(x, "100: she cannot die again", STATE, () -> x.die(1));
        Check.due("100: the second", 11, () -> x.pass(1));
        tells("100: the second is dead", x, 0, 100, 10, 0, 2, 1, 0, 20, 20, 0);
        refused(x, "100: held for two years, and dead", STATE, () -> x.giveUp(0));
        Check.due("100: the third at 99", 47, () -> x.pass(47));
        Check.due("100: is alive", 0, () -> x.told(2, 4));
        Check.due("100: the third's last", 1, () -> x.pass(50));
        tells("100: nobody is older", x, 2, 100, 1, 0, 50, 1, 0, 50, 50, 0);
        counts("100: nothing is left", x, 99, 3, 0, 0, 0, 0, 0, 75, 75);
    }

    private static void yearIs1Greater() {
        WidowPennies x = new WidowPennies();
        Check.due("year: 0 at first", 0, () -> x.count(0));
        x.pass(1);
        Check.due("year: 1", 1, () -> x.count(0));
        x.pass(50);
        Check.due("year: 51", 51, () -> x.count(0));
    }

    private static void boughtTwoYearsAgoOrMore() {
        WidowPennies x = plainBook();
        x.buy(60, 10, 5);
        x.pass(1);
        x.buy(60, 10, 0);
        Check.due("giving up: bought 1 year ago", 1, () -> x.told(0, 3));
        Check.due("giving up: would get nothing", 0, () -> x.told(0, 8));
        refused(x, "giving up: after 1 year", STATE, () -> x.giveUp(0));
        x.pass(1);
        Check.due("giving up: bought 2 years ago", 2, () -> x.told(0, 3));
        Check.due("giving up: would get it all", 350, () -> x.told(0, 8));
        Check.due("giving up: after 2 years", 350, () -> x.giveUp(0));
        refused(x, "giving up: another after 1 year", STATE, () -> x.giveUp(1));
        x.pass(38);
        Check.due("giving up: at 99", 10, () -> x.giveUp(1));
        Check.due("giving up: she is out", 2, () -> x.told(1, 4));
        x.pass(50);
        Check.due("giving up: and stays out", 2, () -> x.told(1, 4));
        Check.due("giving up: and 99", 99, () -> x.told(1, 0));
    }

    private static void chargeIsCut() {
        int[] charges = {0, 10, 10, 10, 50, 50, 50};
        int[] kept = {9, 9, 10, 19, 1, 2, 3};
        int[] gets = {9, 9, 9, 18, 1, 1, 2};
        for (int i = 0; i < charges.length; i++) {
            WidowPennies x = plainBook();
            x.setRate(2, charges[i]);
            x.buy(97, kept[i], 0);
            x.pass(2);
            Check.same("charge " + charges[i] + " of " + kept[i], gets[i], x.told(0, 8));
            Check.same("charge " + charges[i] + " of " + kept[i] + ", given up", gets[i], x.giveUp(0));
            Check.same("charge " + charges[i] + " of " + kept[i] + ", out of the chest", kept[i] - gets[i], x.count(3));
        }
        WidowPennies y = plainBook();
        y.buy(90, 5, 0);
        y.pass(2);
        y.setDeaths(92, 1000);
        Check.due("charge: of nothing", 0, () -> y.told(0, 8));
        Check.due("charge: nothing is given, and she is out", 0, () -> y.giveUp(0));
        tells("charge: she is out", y, 0, 92, 5, 0, 2, 2, 0, 10, 50, 0);
    }

    /** "The one that is named first is thrown": each call that names two, with all that is wrong at once. */
    private static void allExceptionsOfOneCall() {
        WidowPennies x = plainBook();
        for (int i = 0; i < 10; i++) {
            x.buy(60, 1, 0);
        }
        for (int bad : new int[] {-1, 1001, MIN, MAX}) {
            refused(x, "first: setDeaths " + bad, INDEX, () -> x.setDeaths(bad, bad));
            refused(x, "first: setRate " + bad, INDEX, () -> x.setRate(bad, bad));
            refused(x, "first: foresee " + bad, ARGUMENT, () -> x.foresee(bad, bad));
            refused(x, "first: told " + bad, INDEX, () -> x.told(bad, bad));
            refused(x, "first: die " + bad, INDEX, () -> x.die(bad));
            refused(x, "first: giveUp " + bad, INDEX, () -> x.giveUp(bad));
            refused(x, "first: buy at " + bad, ARGUMENT, () -> x.buy(bad, 1, 0));
            refused(x, "first: buy the sum " + bad, ARGUMENT, () -> x.buy(60, bad, 0));
            refused(x, "first: buy put off by " + bad, ARGUMENT, () -> x.buy(60, 1, bad));
            refused(x, "first: buy all " + bad, ARGUMENT, () -> x.buy(bad, bad, bad));
        }
        refused(x, "first: setRate of none, to what the interest can be", INDEX, () -> x.setRate(3, 200));
        refused(x, "first: buy at 100, which has no worth", ARGUMENT, () -> x.buy(100, 1, 0));
        refused(x, "first: buy put off to 130", ARGUMENT, () -> x.buy(99, 1, 31));
    }

    private static void objectsAreApart() {
        WidowPennies x = plainBook();
        WidowPennies y = plainBook();
        long before = y.digest();
        x.setDeaths(60, 500);
        x.setRate(0, 100);
        x.buy(60, 10, 0);
        x.put(5);
        x.pass(3);
        x.foresee(5, 3);
        Check.same("apart: the other is as it was", before, y.digest());
    }
}
