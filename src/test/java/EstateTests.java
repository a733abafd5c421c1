/** What the tests of estates have in common: estates to begin with, and what is read off them. */
abstract class EstateTests {
    static final int INVALID = -2000000001;
    static final int NOT_POSSIBLE = -2000000002;
    static final int LIMIT = -2000000003;
    static final int NOT_FOUND = -2000000004;
    static final int LEAST = Integer.MIN_VALUE;
    static final int MOST = Integer.MAX_VALUE;

    interface Call {
        int answer();
    }

    /** An estate with a lot of so many full barrels that all of its cases can be sold, and with buyers. */
    static LongEstate estate(int barrels, int rate, int buyers) {
        LongEstate x = new LongEstate();
        x.set(0, 0);
        x.set(1, 0);
        x.lot(barrels, rate);
        for (int i = 0; i < buyers; i++) {
            x.buyer();
        }
        return x;
    }

    /** The same with two buyers, so many months later. */
    static LongEstate aged(int barrels, int rate, int months) {
        LongEstate x = estate(barrels, rate, 2);
        passMany(x, months);
        return x;
    }

    static void passMany(LongEstate x, int months) {
        for (int left = months; left > 0; left -= 60) {
            x.pass(Math.min(60, left));
        }
    }

    static void tasteOften(LongEstate x, int lot, int times) {
        for (int i = 0; i < times; i++) {
            x.taste(lot, 50);
        }
    }

    static int[] barrels(LongEstate x, int lot) {
        int[] row = new int[Math.max(0, x.lotOf(lot, 0))];
        for (int i = 0; i < row.length; i++) {
            row[i] = x.barrel(lot, i);
        }
        return row;
    }

    static int[] entryRow(LongEstate x, int index) {
        int[] row = new int[6];
        for (int what = 0; what < row.length; what++) {
            row[what] = x.entry(index, what);
        }
        return row;
    }

    /** What each buyer has of a lot: 0 futures, 1 what was paid for these, 2 cases delivered. */
    static int[] ofBuyers(LongEstate x, int lot, int what) {
        int[] row = new int[x.count(1)];
        for (int buyer = 0; buyer < row.length; buyer++) {
            row[buyer] = x.holding(buyer, lot, what);
        }
        return row;
    }

    /** An estate without lots and buyers that has the text. */
    static LongEstate typed(String text) {
        LongEstate x = new LongEstate();
        Checks.typeAll(x, text);
        return x;
    }

    static int[] faultRow(LongEstate x) {
        return new int[] {x.fault(0), x.fault(1), x.fault(2)};
    }

    /** The error is due, and nothing may have been changed, the text and the history's length included. */
    static void refused(Checks t, LongEstate x, String name, int want, Call call) {
        String before = Checks.snapshot(x);
        int states = x.count(10);
        int length = x.count(11);
        int[] fault = faultRow(x);
        x.keepQuestions(true);
        t.due(name, call.answer(), want);
        x.keepQuestions(false);
        t.that(name + " changes nothing", before.equals(Checks.snapshot(x)));
        t.due(name + ": states", x.count(10), states);
        t.due(name + ": length", x.count(11), length);
        t.dueRow(name + ": fault", faultRow(x), fault);
    }
}
