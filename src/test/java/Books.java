/** What the tests of single promises and of their boundaries share. */
abstract class Books {
    static final String ARGUMENT = "throws.IllegalArgumentException";
    static final String INDEX = "throws.IndexOutOfBoundsException";
    static final String STATE = "throws.IllegalStateException";
    static final int MIN = Integer.MIN_VALUE;
    static final int MAX = Integer.MAX_VALUE;
    static final int FULL = 99999999;

    /** Nobody dies ahead of 100, no interest, load or charge: a sum is worth 1000 for each year to come. */
    static WidowPennies plainBook() {
        WidowPennies x = new WidowPennies();
        for (int age = 50; age <= 99; age++) {
            x.setDeaths(age, 0);
        }
        for (int what = 0; what <= 2; what++) {
            x.setRate(what, 0);
        }
        return x;
    }

    /** A plain book whose chest takes nothing more; the year is 50. */
    static WidowPennies fullBook() {
        WidowPennies x = plainBook();
        x.put(99999);
        x.setRate(0, 200);
        x.pass(50);
        x.setRate(0, 0);
        Check.same("the chest is full", FULL, x.count(3));
        return x;
    }

    static void counts(String what, WidowPennies x, int... want) {
        for (int i = 0; i < want.length; i++) {
            Check.same(what + " count(" + i + ")", want[i], x.count(i));
        }
    }

    static void tells(String what, WidowPennies x, int widow, int... want) {
        for (int i = 0; i < want.length; i++) {
            Check.same(what + " told(" + widow + ", " + i + ")", want[i], x.told(widow, i));
        }
    }

    /** A call that throws changes nothing. */
    static void refused(WidowPennies x, String what, String want, Check.Call call) {
        long before = x.digest();
        Check.due(what, want, call);
        Check.same(what + " changed nothing", before, x.digest());
    }

    /** A call that only looks changes nothing either. */
    static void looks(WidowPennies x, String what, Object want, Check.Call call) {
        long before = x.digest();
        Check.due(what, want, call);
        Check.same(what + " changed nothing", before, x.digest());
    }
}
