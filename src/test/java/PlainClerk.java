import java.util.ArrayList;
import java.util.List;

/**
 * The document once more, in another way than the class: recursion where the document says "the worth at the
 * next age", a whole copy where it says "nothing is changed", and a trial of each where it says "the least".
 */
final class PlainClerk {
    private static final class One {
        long age;
        long sum;
        long putOff;
        long since;
        long state;
        long got;
        long paid;
    }

    private final long[] deaths = new long[100];
    private long interest = 40;
    private long load = 5;
    private long charge = 10;
    private long year;
    private long chest;
    private long paidOut;
    private final List<One> all = new ArrayList<>();

    PlainClerk() {
        for (int age = 50; age <= 99; age++) {
            deaths[age] = 10 + (age - 50) * 8;
        }
    }

    private PlainClerk another() {
        PlainClerk c = new PlainClerk();
        System.arraycopy(deaths, 0, c.deaths, 0, 100);
        c.interest = interest;
        c.load = load;
        c.charge = charge;
        c.year = year;
        c.chest = chest;
        c.paidOut = paidOut;
        for (One o : all) {
            One p = new One();
            p.age = o.age;
            p.sum = o.sum;
            p.putOff = o.putOff;
            p.since = o.since;
            p.state = o.state;
            p.got = o.got;
            p.paid = o.paid;
            c.all.add(p);
        }
        return c;
    }

    private static boolean out(long x, long least, long most) {
        return x < least || x > most;
    }

    private static void argument(boolean bad) {
        if (bad) {
            throw new IllegalArgumentException();
        }
    }

    private static void index(boolean bad) {
        if (bad) {
            throw new IndexOutOfBoundsException();
        }
    }

    private static void state(boolean bad) {
        if (bad) {
            throw new IllegalStateException();
        }
    }

    private long w(long age, long putOff, long rate) {
        if (age >= 100) {
            return 0;
        }
        long live = 1000 - deaths[(int) age];
        if (putOff == 0) {
            return live * (1000 + w(age + 1, 0, rate)) / (1000 + rate);
        }
        return live * w(age + 1, putOff - 1, rate) / (1000 + rate);
    }

    private long p(long age, long sum, long putOff) {
        long worth = w(age, putOff, interest);
        if (worth == 0) {
            return 0;
        }
        long part = sum * worth / 1000;
        return Math.max(1, part + part * load / 100);
    }

    private long kept(One o, long rate) {
        return o.state != 0 ? 0 : o.sum * w(o.age, o.putOff, rate) / 1000;
    }

    private long keptAll(long rate) {
        long all = 0;
        for (One o : this.all) {
            all += kept(o, rate);
        }
        return all;
    }

    private void into(long pennies) {
        chest = Math.min(99999999, chest + pennies);
    }

    private void aYear() {
        if (chest >= 0) {
            into(chest * interest / 1000);
        }
        for (One o : all) {
            if (o.state != 0) {
                continue;
            }
            boolean gets = o.putOff == 0;
            o.age++;
            o.since++;
            if (gets) {
                o.got += o.sum;
                chest -= o.sum;
                paidOut += o.sum;
            } else {
                o.putOff--;
            }
        }
        for (One o : all) {
            if (o.state == 0 && o.age == 100) {
                o.state = 1;
            }
        }
        year++;
    }

    int setDeaths(int age, int to) {
        index(out(age, 50, 99));
        argument(out(to, 0, 1000));
        long was = deaths[age];
        deaths[age] = to;
        return (int) was;
    }

    int setRate(int what, int to) {
        index(out(what, 0, 2));
        argument(out(to, 0, what == 0 ? 200 : 50));
        long was = what == 0 ? interest : what == 1 ? load : charge;
        if (what == 0) {
            interest = to;
        } else if (what == 1) {
            load = to;
        } else {
            charge = to;
        }
        return (int) was;
    }

    int buy(int age, int sum, int putOff) {
        argument(out(age, 50, 99) || out(sum, 1, 999) || out(putOff, 0, 30));
        state(all.size() == 10 || w(age, putOff, interest) == 0);
        One o = new One();
        o.age = age;
        o.sum = sum;
        o.putOff = putOff;
        o.paid = p(age, sum, putOff);
        into(o.paid);
        all.add(o);
        return all.size() - 1;
    }

    int die(int widow) {
        index(out(widow, 0, all.size() - 1));
        One o = all.get(widow);
        state(o.state != 0);
        long k = kept(o, interest);
        o.state = 1;
        return (int) k;
    }

    int giveUp(int widow) {
        index(out(widow, 0, all.size() - 1));
        One o = all.get(widow);
        state(o.state != 0 || o.since < 2);
        long gets = would(o);
        o.state = 2;
        o.got += gets;
        chest -= gets;
        paidOut += gets;
        return (int) gets;
    }

    private long would(One o) {
        if (o.state != 0 || o.since < 2) {
            return 0;
        }
        long k = kept(o, interest);
        return k - k * charge / 100;
    }

    int put(int sum) {
        argument(out(sum, -99999, 99999));
        into(sum);
        return (int) chest;
    }

    int worth(int age, int putOff) {
        argument(out(age, 50, 99) || out(putOff, 0, 30));
        return (int) w(age, putOff, interest);
    }

    int price(int age, int sum, int putOff) {
        argument(out(age, 50, 99) || out(sum, 1, 999) || out(putOff, 0, 30));
        return (int) p(age, sum, putOff);
    }

    int told(int widow, int what) {
        index(out(widow, 0, all.size() - 1) || out(what, 0, 8));
        One o = all.get(widow);
        long[] rows = {o.age, o.sum, o.putOff, o.since, o.state, kept(o, interest), o.got, o.paid, would(o)};
        return (int) rows[what];
    }

    int count(int what) {
        index(out(what, 0, 8));
        long living = 0;
        long sums = 0;
        long prices = 0;
        for (One o : all) {
            prices += o.paid;
            if (o.state == 0) {
                living++;
                sums += o.putOff == 0 ? o.sum : 0;
            }
        }
        long k = keptAll(interest);
        long[] rows = {year, all.size(), living, chest, k, chest - k, sums, paidOut, prices};
        return (int) rows[what];
    }

    int alive(int age, int years) {
        argument(out(age, 50, 99) || out(years, 0, 60));
        long n = 1000;
        for (int y = 1; y <= years; y++) {
            n = age + y > 99 ? 0 : n * (1000 - deaths[age + y - 1]) / 1000;
        }
        return (int) n;
    }

    int pass(int years) {
        argument(out(years, 1, 50));
        long was = paidOut;
        for (int y = 0; y < years; y++) {
            aYear();
        }
        return (int) (paidOut - was);
    }

    int foresee(int years, int what) {
        argument(out(years, 1, 50));
        index(out(what, 2, 7));
        PlainClerk c = another();
        c.pass(years);
        return c.count(what);
    }

    int lasts() {
        PlainClerk c = another();
        int years = 0;
        while (c.chest >= 0) {
            if (years == 60) {
                return -1;
            }
            c.aYear();
            years++;
        }
        return years;
    }

    int even() {
        for (int rate = 0; rate <= 200; rate++) {
            if (chest >= keptAll(rate)) {
                return rate;
            }
        }
        return -1;
    }

    int affords(int age, int putOff, int money) {
        argument(out(age, 50, 99) || out(putOff, 0, 30) || out(money, 1, 99999));
        if (w(age, putOff, interest) == 0) {
            return 0;
        }
        int most = 0;
        for (int sum = 1; sum <= 999; sum++) {
            if (p(age, sum, putOff) <= money) {
                most = sum;
            }
        }
        return most;
    }

    double mean() {
        long ages = 0;
        long n = 0;
        for (One o : all) {
            if (o.state == 0) {
                ages += o.age;
                n++;
            }
        }
        return n == 0 ? 0 : (double) ages / n;
    }

    long digest() {
        List<Long> rows = new ArrayList<>();
        for (int what = 0; what <= 8; what++) {
            rows.add((long) count(what));
        }
        rows.add(interest);
        rows.add(load);
        rows.add(charge);
        for (int age = 50; age <= 99; age++) {
            rows.add(deaths[age]);
        }
        for (int widow = 0; widow < all.size(); widow++) {
            for (int what = 0; what <= 8; what++) {
                rows.add((long) told(widow, what));
            }
        }
        long d = 1667;
        for (long x : rows) {
            d = d * 31 + x;
        }
        return d;
    }
}
