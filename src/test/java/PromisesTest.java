/** Each promise of ../shared/DOC.md by itself, with answers reckoned by hand. */
public final class PromisesTest extends Books {
    private PromisesTest() {
    }

    public static void main(String[] args) {
        newObject();
        setDeaths();
        setRate();
        buy();
        buyRefused();
        die();
        giveUp();
        giveUpCuts();
        put();
        chestIsFull();
        worth();
        price();
        told();
        count();
        alive();
        pass();
        passWithInterest();
        hundredth();
        foresee();
        lasts();
        lastsAtTheEnd();
        even();
        affords();
        mean();
        digest();
        digestOfWidows();
        Check.end();
    }

    private static void newObject() {
        WidowPennies x = new WidowPennies();
        counts("1 new", x, 0, 0, 0, 0, 0, 0, 0, 0, 0);
        Check.due("1 setRate(0, 40)", 40, () -> x.setRate(0, 40));
        Check.due("1 setRate(1, 5)", 5, () -> x.setRate(1, 5));
        Check.due("1 setRate(2, 10)", 10, () -> x.setRate(2, 10));
        for (int age = 50; age <= 99; age++) {
            Check.same("1 deaths at " + age, 10 + 8 * (age - 50), x.setDeaths(age, 0));
        }
        Check.same("1 another object has its own table", 10, new WidowPennies().setDeaths(50, 1));
    }

    private static void setDeaths() {
        WidowPennies x = new WidowPennies();
        Check.due("2 first", 10, () -> x.setDeaths(50, 1000));
        Check.due("2 again", 1000, () -> x.setDeaths(50, 0));
        Check.due("2 last age", 402, () -> x.setDeaths(99, 7));
        Check.due("2 last age again", 7, () -> x.setDeaths(99, 7));
        Check.due("2 neighbour untouched", 18, () -> x.setDeaths(51, 18));
        Check.due("2 from now on", (1000 - 7) * 1000 / 1040, () -> x.worth(99, 0));
        for (int age : new int[] {49, 100, 0, -1, MIN, MAX}) {
            refused(x, "2 age " + age, INDEX, () -> x.setDeaths(age, 1));
            refused(x, "2 age " + age + ", deaths too", INDEX, () -> x.setDeaths(age, -1));
        }
        for (int deaths : new int[] {-1, 1001, MIN, MAX}) {
            refused(x, "2 deaths " + deaths, ARGUMENT, () -> x.setDeaths(60, deaths));
        }
    }

    private static void setRate() {
        WidowPennies x = new WidowPennies();
        Check.due("3 interest", 40, () -> x.setRate(0, 200));
        Check.due("3 interest again", 200, () -> x.setRate(0, 0));
        Check.due("3 load", 5, () -> x.setRate(1, 50));
        Check.due("3 load again", 50, () -> x.setRate(1, 0));
        Check.due("3 charge", 10, () -> x.setRate(2, 50));
        Check.due("3 charge again", 50, () -> x.setRate(2, 0));
        for (int what : new int[] {-1, 3, MIN, MAX}) {
            refused(x, "3 what " + what, INDEX, () -> x.setRate(what, 0));
            refused(x, "3 what " + what + ", to too", INDEX, () -> x.setRate(what, -1));
        }
        for (int what = 0; what <= 2; what++) {
            int over = what == 0 ? 201 : 51;
            int rate = what;
            for (int to : new int[] {-1, over, MIN, MAX}) {
                refused(x, "3 rate " + rate + " to " + to, ARGUMENT, () -> x.setRate(rate, to));
            }
        }
    }

    private static void buy() {
        WidowPennies x = plainBook();
        x.setRate(1, 50);
        Check.due("4 first", 0, () -> x.buy(98, 10, 0));
        tells("4 first", x, 0, 98, 10, 0, 0, 0, 20, 0, 30, 0);
        Check.due("4 second, put off", 1, () -> x.buy(90, 3, 9));
        tells("4 second", x, 1, 90, 3, 9, 0, 0, 3, 0, 4, 0);
        counts("4 both", x, 0, 2, 2, 34, 23, 11, 10, 0, 34);
        Check.due("4 third, dearest", 2, () -> x.buy(50, 999, 0));
        Check.same("4 third's price", 49950 + 24975, x.told(2, 7));
        Check.due("4 third of 30", 3, () -> x.buy(50, 1, 30));
        Check.same("4 its price", 30, x.told(3, 7));
    }

    private static void buyRefused() {
        WidowPennies x = plainBook();
        for (int i = 0; i < 9; i++) {
            x.buy(60, 1, 0);
        }
        for (int age : new int[] {49, 100, MIN, MAX}) {
            refused(x, "4 age " + age, ARGUMENT, () -> x.buy(age, 1, 0));
        }
        for (int sum : new int[] {0, 1000, -1, MIN, MAX}) {
            refused(x, "4 sum " + sum, ARGUMENT, () -> x.buy(60, sum, 0));
        }
        for (int putOff : new int[] {-1, 31, MIN, MAX}) {
            refused(x, "4 putOff " + putOff, ARGUMENT, () -> x.buy(60, 1, putOff));
        }
        refused(x, "4 worth 0, behind 99", STATE, () -> x.buy(70, 1, 30));
        x.setDeaths(99, 1000);
        refused(x, "4 worth 0, all die", STATE, () -> x.buy(99, 1, 0));
        Check.due("4 tenth", 9, () -> x.buy(60, 1, 0));
        refused(x, "4 eleventh", STATE, () -> x.buy(60, 1, 0));
        refused(x, "4 eleventh, argument first", ARGUMENT, () -> x.buy(60, 0, 0));
        x.die(0);
        refused(x, "4 the dead were written too", STATE, () -> x.buy(60, 1, 0));
    }

    private static void die() {
        WidowPennies x = plainBook();
        refused(x, "5 nobody", INDEX, () -> x.die(0));
        x.buy(90, 7, 3);
        x.buy(95, 4, 0);
        Check.due("5 kept", 49, () -> x.die(0));
        tells("5 dead", x, 0, 90, 7, 3, 0, 1, 0, 0, 49, 0);
        counts("5 chest stays", x, 0, 2, 1, 69, 20, 49, 4, 0, 69);
        refused(x, "5 twice", STATE, () -> x.die(0));
        for (int widow : new int[] {-1, 2, 9, 10, MIN, MAX}) {
            refused(x, "5 widow " + widow, INDEX, () -> x.die(widow));
        }
        x.pass(2);
        tells("5 no time goes by for the dead", x, 0, 90, 7, 3, 0, 1, 0, 0, 49, 0);
        x.giveUp(1);
        refused(x, "5 out", STATE, () -> x.die(1));
    }

    private static void giveUp() {
        WidowPennies x = plainBook();
        refused(x, "6 nobody", INDEX, () -> x.giveUp(0));
        x.setRate(2, 30);
        x.buy(90, 10, 0);
        x.buy(90, 10, 5);
        refused(x, "6 in the first year", STATE, () -> x.giveUp(0));
        x.pass(1);
        refused(x, "6 in the second year", STATE, () -> x.giveUp(0));
        x.pass(1);
        Check.due("6 in the third year", 80 - 24, () -> x.giveUp(0));
        tells("6 out", x, 0, 92, 10, 0, 2, 2, 0, 20 + 56, 100, 0);
        counts("6 out", x, 2, 2, 1, 150 - 20 - 56, 50, 24, 0, 76, 150);
        refused(x, "6 twice", STATE, () -> x.giveUp(0));
        x.pass(2);
        tells("6 no time goes by for her", x, 0, 92, 10, 0, 2, 2, 0, 76, 100, 0);
        x.die(1);
        refused(x, "6 dead", STATE, () -> x.giveUp(1));
        for (int widow : new int[] {-1, 2, 9, 10, MIN, MAX}) {
            refused(x, "6 widow " + widow, INDEX, () -> x.giveUp(widow));
        }
    }

    /** The charge is cut, so what she gets is not. */
    private static void giveUpCuts() {
        WidowPennies x = plainBook();
        x.setRate(2, 50);
        x.buy(95, 3, 0);
        x.pass(2);
        x.put(-15);
        Check.due("6 9 less 4", 5, () -> x.giveUp(0));
        Check.same("6 the chest may fall below 0", 9 - 15 - 5, x.count(3));
    }

    private static void put() {
        WidowPennies x = new WidowPennies();
        Check.due("7 in", 99999, () -> x.put(99999));
        Check.due("7 nothing", 99999, () -> x.put(0));
        Check.due("7 out", 0, () -> x.put(-99999));
        Check.due("7 below 0", -99999, () -> x.put(-99999));
        Check.due("7 a penny", -99998, () -> x.put(1));
        counts("7 only the chest", x, 0, 0, 0, -99998, 0, -99998, 0, 0, 0);
        for (int sum : new int[] {100000, -100000, MIN, MAX}) {
            refused(x, "7 sum " + sum, ARGUMENT, () -> x.put(sum));
        }
    }

    private static void chestIsFull() {
        WidowPennies x = plainBook();
        x.put(99999);
        x.setRate(0, 200);
        x.pass(50);
        Check.same("chest: interest has the most", 99999999, x.count(3));
        Check.due("chest: nothing more comes in", 99999999, () -> x.put(1));
        Check.due("chest: what goes out goes out", 99999998, () -> x.put(-1));
        x.setRate(0, 0);
        x.buy(90, 100, 0);
        Check.same("chest: a price too is given away", 99999999, x.count(3));
        Check.same("chest: the whole price was paid", 1000, x.told(0, 7));
        Check.same("chest: and is added", 1000, x.count(8));
        x.setRate(0, 200);
        x.pass(1);
        Check.same("chest: interest is cut ahead of what is paid", 99999899, x.count(3));
        WidowPennies y = new WidowPennies();
        y.put(-1000);
        y.pass(1);
        Check.same("chest: no interest below 0", -1000, y.count(3));
        y.put(1024);
        y.pass(1);
        Check.same("chest: interest is cut", 24, y.count(3));
        y.put(1);
        y.pass(1);
        Check.same("chest: interest of 25", 26, y.count(3));
    }

    private static void worth() {
        WidowPennies x = new WidowPennies();
        int at99 = 598 * 1000 / 1040;
        int at98 = 606 * (1000 + at99) / 1040;
        int at97 = 614 * (1000 + at98) / 1040;
        Check.due("8 at 99", at99, () -> x.worth(99, 0));
        Check.due("8 at 98", at98, () -> x.worth(98, 0));
        Check.due("8 at 97", at97, () -> x.worth(97, 0));
        Check.due("8 at 98, put off", 606 * at99 / 1040, () -> x.worth(98, 1));
        Check.due("8 at 97, put off", 614 * at98 / 1040, () -> x.worth(97, 1));
        Check.due("8 at 97, put off by 2", 614 * (606 * at99 / 1040) / 1040, () -> x.worth(97, 2));
        Check.due("8 behind 99", 0, () -> x.worth(97, 3));
        Check.due("8 far behind 99", 0, () -> x.worth(99, 30));
        WidowPennies y = plainBook();
        Check.due("8 fifty years", 50000, () -> y.worth(50, 0));
        Check.due("8 twenty years", 20000, () -> y.worth(50, 30));
        Check.due("8 one year", 1000, () -> y.worth(70, 29));
        Check.due("8 no year", 0, () -> y.worth(70, 30));
        y.setDeaths(60, 1000);
        Check.due("8 none behind 60", 10000, () -> y.worth(50, 0));
        Check.due("8 put off too far", 0, () -> y.worth(50, 10));
        for (int age : new int[] {49, 100, MIN, MAX}) {
            refused(x, "8 age " + age, ARGUMENT, () -> x.worth(age, 0));
        }
        for (int putOff : new int[] {-1, 31, MIN, MAX}) {
            refused(x, "8 putOff " + putOff, ARGUMENT, () -> x.worth(60, putOff));
        }
    }

    private static void price() {
        WidowPennies x = new WidowPennies();
        Check.due("9 528 and 26", 554, () -> x.price(60, 100, 0));
        Check.due("9 at least 1", 1, () -> x.price(99, 1, 0));
        Check.due("9 nothing for nothing", 0, () -> x.price(60, 999, 40 - 10));
        Check.due("9 575 of 1000, 999 times", 574 + 28, () -> x.price(99, 999, 0));
        WidowPennies y = plainBook();
        Check.due("9 without a load", 49950, () -> y.price(50, 999, 0));
        y.setRate(1, 50);
        Check.due("9 the load is cut", 4, () -> y.price(97, 1, 0));
        Check.due("9 dearest", 74925, () -> y.price(50, 999, 0));
        counts("9 nothing is bought", y, 0, 0, 0, 0, 0, 0, 0, 0, 0);
        for (int age : new int[] {49, 100, MIN, MAX}) {
            refused(x, "9 age " + age, ARGUMENT, () -> x.price(age, 1, 0));
        }
        for (int sum : new int[] {0, 1000, MIN, MAX}) {
            refused(x, "9 sum " + sum, ARGUMENT, () -> x.price(60, sum, 0));
        }
        for (int putOff : new int[] {-1, 31, MIN, MAX}) {
            refused(x, "9 putOff " + putOff, ARGUMENT, () -> x.price(60, 1, putOff));
        }
    }

    private static void told() {
        WidowPennies x = plainBook();
        refused(x, "10 nobody", INDEX, () -> x.told(0, 0));
        x.setRate(1, 10);
        x.setRate(2, 25);
        x.buy(90, 20, 3);
        tells("10 at first", x, 0, 90, 20, 3, 0, 0, 140, 0, 154, 0);
        x.pass(1);
        tells("10 a year on", x, 0, 91, 20, 2, 1, 0, 140, 0, 154, 0);
        x.pass(1);
        tells("10 two years on", x, 0, 92, 20, 1, 2, 0, 140, 0, 154, 105);
        x.pass(1);
        tells("10 the last year that she waits", x, 0, 93, 20, 0, 3, 0, 140, 0, 154, 105);
        x.pass(1);
        tells("10 the first sum", x, 0, 94, 20, 0, 4, 0, 120, 20, 154, 90);
        x.setDeaths(94, 1000);
        tells("10 what is kept is of now", x, 0, 94, 20, 0, 4, 0, 0, 20, 154, 0);
        for (int widow : new int[] {-1, 1, 9, 10, MIN, MAX}) {
            refused(x, "10 widow " + widow, INDEX, () -> x.told(widow, 0));
        }
        for (int what : new int[] {-1, 9, MIN, MAX}) {
            refused(x, "10 what " + what, INDEX, () -> x.told(0, what));
        }
    }

    private static void count() {
        WidowPennies x = plainBook();
        x.buy(90, 5, 0);
        x.buy(90, 6, 2);
        x.buy(90, 7, 0);
        x.buy(90, 8, 0);
        x.die(2);
        counts("11 at first", x, 0, 4, 3, 248, 178, 70, 13, 0, 248);
        x.pass(2);
        counts("11 two years on", x, 2, 4, 3, 222, 152, 70, 19, 26, 248);
        x.giveUp(3);
        counts("11 one gave up", x, 2, 4, 2, 158, 88, 70, 11, 90, 248);
        x.put(-200);
        counts("11 too little", x, 2, 4, 2, -42, 88, -130, 11, 90, 248);
        for (int what : new int[] {-1, 9, MIN, MAX}) {
            refused(x, "11 what " + what, INDEX, () -> x.count(what));
        }
    }

    private static void alive() {
        WidowPennies x = new WidowPennies();
        Check.due("12 now", 1000, () -> x.alive(60, 0));
        Check.due("12 a year", 910, () -> x.alive(60, 1));
        Check.due("12 two years", 910 * 902 / 1000, () -> x.alive(60, 2));
        Check.due("12 three years", 820 * 894 / 1000, () -> x.alive(60, 3));
        Check.due("12 at 99", 1000, () -> x.alive(99, 0));
        Check.due("12 behind 99", 0, () -> x.alive(99, 1));
        WidowPennies y = plainBook();
        Check.due("12 to 99", 1000, () -> y.alive(50, 49));
        Check.due("12 to 100", 0, () -> y.alive(50, 50));
        Check.due("12 to 110", 0, () -> y.alive(50, 60));
        Check.due("12 98 to 99", 1000, () -> y.alive(98, 1));
        for (int age : new int[] {49, 100, MIN, MAX}) {
            refused(x, "12 age " + age, ARGUMENT, () -> x.alive(age, 0));
        }
        for (int years : new int[] {-1, 61, MIN, MAX}) {
            refused(x, "12 years " + years, ARGUMENT, () -> x.alive(60, years));
        }
    }

    private static void pass() {
        WidowPennies x = plainBook();
        x.buy(60, 100, 0);
        x.buy(60, 10, 1);
        x.buy(60, 1, 3);
        Check.due("13 first year", 100, () -> x.pass(1));
        Check.due("13 second year", 110, () -> x.pass(1));
        Check.due("13 two years", 110 + 111, () -> x.pass(2));
        counts("13 four years", x, 4, 3, 3, 4000 + 390 + 37 - 431, 36 * 111, 0, 111, 431, 4427);
        Check.due("13 fifty years", 36 * 111, () -> x.pass(50));
        counts("13 all are dead", x, 54, 3, 0, 0, 0, 0, 0, 4427, 4427);
        Check.due("13 nobody is paid", 0, () -> x.pass(1));
        for (int years : new int[] {0, 51, -1, MIN, MAX}) {
            refused(x, "13 years " + years, ARGUMENT, () -> x.pass(years));
        }
    }

    private static void passWithInterest() {
        WidowPennies x = plainBook();
        x.buy(98, 10, 0);
        x.put(1000);
        x.setRate(0, 100);
        Check.due("13 with interest", 20, () -> x.pass(2));
        // 1020 and 102, less 10; 1112 and 111, less 10
        Check.same("13 interest comes ahead of what is paid", 1213, x.count(3));
    }

    /** Who becomes 100 gets that year's sum, and then dies. */
    private static void hundredth() {
        WidowPennies x = plainBook();
        x.buy(98, 10, 0);
        x.buy(98, 10, 1);
        x.pass(1);
        tells("13 at 99", x, 0, 99, 10, 0, 1, 0, 10, 10, 20, 0);
        Check.due("13 hundredth year", 20, () -> x.pass(1));
        tells("13 at 100", x, 0, 100, 10, 0, 2, 1, 0, 20, 20, 0);
        tells("13 at 100, put off", x, 1, 100, 10, 0, 2, 1, 0, 10, 10, 0);
        refused(x, "13 she died", STATE, () -> x.die(0));
        refused(x, "13 she died and gives nothing up", STATE, () -> x.giveUp(0));
    }

    private static void foresee() {
        WidowPennies x = plainBook();
        x.setRate(0, 100);
        x.buy(96, 10, 0);
        x.buy(80, 20, 2);
        x.put(1000 - x.count(3));
        x.pass(1);
        long before = x.digest();
        int[] behindTwo = new int[8];
        for (int what = 2; what <= 7; what++) {
            behindTwo[what] = x.foresee(2, what);
        }
        Check.same("14 nothing is changed", before, x.digest());
        x.pass(2);
        for (int what = 2; what <= 7; what++) {
            Check.same("14 behind two years, " + what, x.count(what), behindTwo[what]);
        }
        Check.same("14 alive", 2, behindTwo[2]);
        // 1090; 1090 + 109 - 10 = 1189; 1189 + 118 - 30 = 1277
        Check.same("14 chest", 1277, behindTwo[3]);
        Check.same("14 sums", 30, behindTwo[6]);
        Check.same("14 paid out in all", 50, behindTwo[7]);
        Check.due("14 a year more", 1, () -> x.foresee(1, 2));
        Check.due("14 fifty years more", 0, () -> x.foresee(50, 2));
        Check.due("14 fifty years more, paid out", 50 + 10 + 17 * 20, () -> x.foresee(50, 7));
        for (int years : new int[] {0, 51, -1, MIN, MAX}) {
            refused(x, "14 years " + years, ARGUMENT, () -> x.foresee(years, 3));
            refused(x, "14 years " + years + ", what too", ARGUMENT, () -> x.foresee(years, 8));
        }
        for (int what : new int[] {1, 8, 0, -1, MIN, MAX}) {
            refused(x, "14 what " + what, INDEX, () -> x.foresee(1, what));
        }
    }

    private static void lasts() {
        WidowPennies x = plainBook();
        Check.due("15 nobody", -1, x::lasts);
        x.buy(90, 10, 2);
        Check.due("15 just enough", -1, x::lasts);
        x.put(-1);
        long before = x.digest();
        Check.due("15 a penny short", 10, x::lasts);
        Check.same("15 nothing is changed", before, x.digest());
        x.put(-79);
        Check.due("15 nothing in it", 3, x::lasts);
        x.pass(2);
        Check.due("15 by next year", 1, x::lasts);
        x.put(-1);
        Check.due("15 now", 0, x::lasts);
        x.put(21);
        Check.due("15 twenty", 3, x::lasts);
        x.setRate(0, 200);
        Check.due("15 with interest", 3, x::lasts);
        x.put(19);
        // 39 and 7, 36 and 7, 33 and 6, 29 and 5, 24 and 4, 18 and 3, 11 and 2, 3 and 0: less 10 each
        Check.due("15 interest helps", 8, x::lasts);
    }

    /** Years are tried until the last who can be alive is dead. */
    private static void lastsAtTheEnd() {
        WidowPennies x = plainBook();
        x.buy(50, 1, 0);
        Check.due("15 fifty years", -1, x::lasts);
        x.put(-1);
        Check.due("15 in the fiftieth", 50, x::lasts);
    }

    private static void even() {
        WidowPennies x = plainBook();
        Check.due("16 nobody, nothing", 0, x::even);
        x.put(-1);
        Check.due("16 less than 0", -1, x::even);
        x.put(1);
        x.buy(99, 1, 0);
        x.buy(99, 999, 0);
        Check.due("16 all of it", 0, x::even);
        x.setRate(0, 77);
        long before = x.digest();
        x.put(-1);
        // kept: 1000000 / (1000 + i) cut, of it 1 and 999 of a thousand, cut: below 1000 from 1 on
        Check.due("16 a penny less", 1, x::even);
        x.put(1);
        Check.same("16 nothing is changed", before, x.digest());
        x.put(-100);
        // 900: with 110 it is 999 * 900 / 1000 = 899; with 109 it is 999 * 901 / 1000 = 900
        Check.due("16 nine tenths", 109, x::even);
        x.put(-68);
        // 832: with 200 it is 999 * 833 / 1000 = 832; with 199 it is 999 * 834 / 1000 = 833
        Check.due("16 the greatest interest", 200, x::even);
        x.put(-1);
        Check.due("16 without one", -1, x::even);
        x.die(1);
        Check.due("16 the dead are left out", 0, x::even);
    }

    private static void affords() {
        WidowPennies x = plainBook();
        Check.due("17 a hundred of one each", 100, () -> x.affords(99, 0, 100));
        Check.due("17 at most 999", 999, () -> x.affords(99, 0, 99999));
        Check.due("17 just 999", 999, () -> x.affords(99, 0, 999));
        Check.due("17 just 998", 998, () -> x.affords(99, 0, 998));
        Check.due("17 too dear", 0, () -> x.affords(50, 0, 49));
        Check.due("17 just one", 1, () -> x.affords(50, 0, 50));
        Check.due("17 put off", 4, () -> x.affords(50, 30, 99));
        Check.due("17 behind 99", 0, () -> x.affords(99, 1, 99999));
        x.setDeaths(99, 999);
        Check.due("17 1 of a thousand", 999, () -> x.affords(99, 0, 1));
        x.setDeaths(99, 1000);
        Check.due("17 worth 0", 0, () -> x.affords(99, 0, 99999));
        WidowPennies y = new WidowPennies();
        Check.due("17 with a load", 3, () -> y.affords(99, 0, 1));
        for (int money : new int[] {1, 2, 99, 500, 2000, 99999}) {
            int sum = y.affords(60, 4, money);
            Check.same("17 " + money + " pays", true, sum == 0 || y.price(60, sum, 4) <= money);
            Check.same("17 " + money + " pays no more", true, sum == 999 || y.price(60, sum + 1, 4) > money);
        }
        for (int age : new int[] {49, 100, MIN, MAX}) {
            refused(x, "17 age " + age, ARGUMENT, () -> x.affords(age, 0, 1));
        }
        for (int putOff : new int[] {-1, 31, MIN, MAX}) {
            refused(x, "17 putOff " + putOff, ARGUMENT, () -> x.affords(60, putOff, 1));
        }
        for (int money : new int[] {0, 100000, -1, MIN, MAX}) {
            refused(x, "17 money " + money, ARGUMENT, () -> x.affords(60, 0, money));
        }
    }

    private static void mean() {
        WidowPennies x = plainBook();
        Check.due("18 nobody", 0.0, x::mean);
        x.buy(60, 1, 0);
        Check.due("18 one", 60.0, x::mean);
        x.buy(61, 1, 0);
        Check.due("18 two", 60.5, x::mean);
        x.buy(61, 1, 0);
        Check.due("18 three", 182.0 / 3, x::mean);
        x.die(0);
        x.pass(2);
        Check.due("18 the dead are left out", 63.0, x::mean);
        x.giveUp(1);
        x.pass(1);
        Check.due("18 who is out is left out", 64.0, x::mean);
        x.die(2);
        Check.due("18 nobody any more", 0.0, x::mean);
    }

    private static long fold(long d, long... rows) {
        for (long x : rows) {
            d = d * 31 + x;
        }
        return d;
    }

    private static void digest() {
        WidowPennies x = new WidowPennies();
        long d = fold(1667, 0, 0, 0, 0, 0, 0, 0, 0, 0, 40, 5, 10);
        for (int age = 50; age <= 99; age++) {
            d = fold(d, 10 + 8 * (age - 50));
        }
        Check.due("19 of a new object", d, x::digest);
        Check.due("19 twice", d, x::digest);
    }

    private static void digestOfWidows() {
        WidowPennies x = plainBook();
        x.setRate(2, 20);
        x.buy(90, 10, 0);
        x.buy(95, 20, 1);
        x.pass(2);
        long d = fold(1667, 2, 2, 2, 140, 140, 0, 30, 40, 180, 0, 0, 20);
        for (int age = 50; age <= 99; age++) {
            d = fold(d, 0);
        }
        d = fold(d, 92, 10, 0, 2, 0, 80, 20, 100, 64);
        d = fold(d, 97, 20, 0, 2, 0, 60, 20, 80, 48);
        Check.due("19 of two widows", d, x::digest);
    }
}
