/** For each promise of the document: ordinary inputs, the edges that it names, and wrong inputs. */
public final class PromiseTests extends EstateTests {
    private static int passed = 0;
    private static int failed = 0;

    public static void main(String[] args) {
        for (int promise = 1; promise <= 27; promise++) {
            Checks t = new Checks("promise " + promise);
            run(promise, t);
            if (t.passed()) {
                passed++;
            } else {
                failed++;
            }
        }
        System.out.println(passed + " passed, " + failed + " failed");
        if (failed != 0) {
            System.exit(1);
        }
    }

    private static void run(int promise, Checks t) {
        switch (promise) {
            case 1: newObject(t); break;
            case 2: lot(t); break;
            case 3: taste(t); break;
            case 4: top(t); break;
            case 5: pass(t); break;
            case 6: bottle(t); break;
            case 7: buyer(t); break;
            case 8: sell(t); break;
            case 9: trade(t); break;
            case 10: redeem(t); break;
            case 11: set(t); break;
            case 12: lotOf(t); break;
            case 13: barrel(t); break;
            case 14: holding(t); break;
            case 15: account(t); break;
            case 16: entry(t); break;
            case 17: cases(t); break;
            case 18: sellable(t); break;
            case 19: deadline(t); break;
            case 20: topping(t); break;
            case 21: loser(t); break;
            case 22: count(t); break;
            case 23: undo(t); break;
            case 24: type(t); break;
            case 25: clearText(t); break;
            case 26: fault(t); break;
            default: play(t); break;
        }
    }

    private static void newObject(Checks t) {
        LongEstate x = new LongEstate();
        for (int what = 0; what <= 11; what++) {
            t.due("count(" + what + ")", x.count(what), 0);
        }
        t.due("count(20)", x.count(20), 10);
        t.due("count(21)", x.count(21), 12);
        t.due("account(-1)", x.account(-1), 0);
        t.due("account(0)", x.account(0), INVALID);
        t.due("lotOf(0, 0)", x.lotOf(0, 0), INVALID);
        t.due("entry(0, 0)", x.entry(0, 0), NOT_FOUND);
        t.due("fault(0)", x.fault(0), NOT_FOUND);
        t.due("undo()", x.undo(), NOT_POSSIBLE);
        LongEstate other = new LongEstate();
        other.lot(1, 1);
        other.buyer();
        other.type('x');
        t.due("lots of the first one", x.count(0), 0);
        t.due("buyers of the first one", x.count(1), 0);
        t.due("text of the first one", x.count(11), 0);
        t.due("states of the first one", x.count(10), 0);
    }

    private static void lot(Checks t) {
        LongEstate x = new LongEstate();
        refused(t, x, "lot(0, 0)", INVALID, () -> x.lot(0, 0));
        refused(t, x, "lot(13, 0)", INVALID, () -> x.lot(13, 0));
        refused(t, x, "lot(1, -1)", INVALID, () -> x.lot(1, -1));
        refused(t, x, "lot(1, 51)", INVALID, () -> x.lot(1, 51));
        refused(t, x, "lot(LEAST, MOST)", INVALID, () -> x.lot(LEAST, MOST));
        t.due("lot(1, 0)", x.lot(1, 0), 0);
        t.due("lot(12, 50)", x.lot(12, 50), 1);
        t.due("lot(3, 7)", x.lot(3, 7), 2);
        t.dueRow("lot 0", barrels(x, 0), 2250);
        t.dueRow("lot 2", barrels(x, 2), 2250, 2250, 2250);
        t.due("barrels of lot 1", x.lotOf(1, 0), 12);
        t.due("rate of lot 1", x.lotOf(1, 1), 50);
        t.due("rate of lot 2", x.lotOf(2, 1), 7);
        t.due("wine of lot 1", x.lotOf(1, 2), 27000);
        t.due("bottled", x.lotOf(1, 8), 0);
        t.due("states", x.count(10), 3);
        t.due("lot 3", x.lot(2, 2), 3);
        x.bottle(3);
        t.due("lot 4", x.lot(2, 2), 4);
        t.due("lot 5", x.lot(2, 2), 5);
        refused(t, x, "a 7th lot", LIMIT, () -> x.lot(1, 0));
        refused(t, x, "a wrong 7th lot", INVALID, () -> x.lot(13, 0));
        x.undo();
        t.due("lot 5 again", x.lot(4, 9), 5);
        t.dueRow("lot 5", barrels(x, 5), 2250, 2250, 2250, 2250);
    }

    private static void taste(Checks t) {
        LongEstate x = new LongEstate();
        refused(t, x, "taste without a lot", INVALID, () -> x.taste(0, 50));
        x.lot(2, 0);
        refused(t, x, "taste(0, -1)", INVALID, () -> x.taste(0, -1));
        refused(t, x, "taste(0, 101)", INVALID, () -> x.taste(0, 101));
        refused(t, x, "taste(-1, 0)", INVALID, () -> x.taste(-1, 0));
        refused(t, x, "taste(1, 0)", INVALID, () -> x.taste(1, 0));
        t.due("taste(0, 0)", x.taste(0, 0), 10);
        t.dueRow("wine", barrels(x, 0), 2240, 2250);
        t.due("taste(0, 100)", x.taste(0, 100), 35);
        t.due("taste(0, 77)", x.taste(0, 77), 44);
        t.due("tastings", x.lotOf(0, 7), 3);
        t.due("lost", x.count(5), 0);
        t.due("a tasting is no entry", x.count(9), 0);
        LongEstate full = estate(1, 0, 0);
        t.due("taste(0, 100) first", full.taste(0, 100), 110);
        meanOfScores(t);
        emptyBarrels(t);
        LongEstate bottled = estate(1, 0, 0);
        bottled.bottle(0);
        refused(t, bottled, "taste of a bottled one", NOT_POSSIBLE, () -> bottled.taste(0, 50));
        refused(t, bottled, "wrong taste of a bottled one", INVALID, () -> bottled.taste(0, 101));
    }

    private static void meanOfScores(Checks t) {
        LongEstate x = estate(1, 0, 0);
        t.due("80", x.taste(0, 80), 74);
        t.due("80, 91: mean 85", x.taste(0, 91), 82);
        t.due("80, 91, 99: mean 90", x.taste(0, 99), 91);
        t.due("and 3: mean 68", x.taste(0, 3), 56);
    }

    private static void emptyBarrels(Checks t) {
        LongEstate x = estate(2, 0, 0);
        tasteOften(x, 0, 224);
        t.dueRow("10 left", barrels(x, 0), 10, 2250);
        x.taste(0, 50);
        t.dueRow("left out", barrels(x, 0), 2250);
        tasteOften(x, 0, 224);
        t.dueRow("10 left of the last one", barrels(x, 0), 10);
        t.due("the last tasting", x.taste(0, 50), 35);
        t.due("no barrel", x.lotOf(0, 0), 0);
        refused(t, x, "taste without wine", NOT_POSSIBLE, () -> x.taste(0, 50));
        t.due("pass without wine", x.pass(1), 0);
        t.due("bottle without wine", x.bottle(0), 0);
        LongEstate little = new LongEstate();
        little.lot(2, 50);
        little.pass(60);
        little.pass(60);
        t.dueRow("little wine", barrels(little, 0), 18, 18);
        t.due("first", little.taste(0, 40), 26);
        t.dueRow("out of the first one", barrels(little, 0), 8, 18);
        t.due("second", little.taste(0, 40), 26);
        t.dueRow("out of the second one", barrels(little, 0), 8, 8);
        refused(t, little, "too little in each", NOT_POSSIBLE, () -> little.taste(0, 50));
        refused(t, little, "a wrong score", INVALID, () -> little.taste(0, -1));
    }

    private static void top(Checks t) {
        LongEstate x = new LongEstate();
        refused(t, x, "top without a lot", INVALID, () -> x.top(0));
        x.lot(3, 0);
        refused(t, x, "top of full ones", NOT_POSSIBLE, () -> x.top(0));
        refused(t, x, "top(-1)", INVALID, () -> x.top(-1));
        refused(t, x, "top(1)", INVALID, () -> x.top(1));
        x.taste(0, 50);
        t.due("top(0)", x.top(0), 3);
        t.dueRow("the last one has less", barrels(x, 0), 2250, 2250, 2240);
        refused(t, x, "all but the last one are full", NOT_POSSIBLE, () -> x.top(0));
        x.lot(1, 50);
        x.pass(1);
        refused(t, x, "top of one barrel", NOT_POSSIBLE, () -> x.top(1));
        LongEstate four = estate(4, 50, 0);
        four.pass(6);
        t.dueRow("before", barrels(four, 0), 1570, 1570, 1570, 1570);
        t.due("top(0) of four", four.top(0), 3);
        t.dueRow("after", barrels(four, 0), 2250, 2250, 1780);
        t.due("no wine is lost by it", four.count(5), 2720);
        LongEstate twelve = estate(12, 50, 0);
        twelve.pass(60);
        twelve.pass(60);
        t.due("top(0) of twelve", twelve.top(0), 1);
        t.dueRow("in one", barrels(twelve, 0), 216);
        exactlyEmpty(t);
        LongEstate bottled = estate(2, 50, 0);
        bottled.pass(1);
        bottled.bottle(0);
        refused(t, bottled, "top of a bottled one", NOT_POSSIBLE, () -> bottled.top(0));
    }

    /** The last barrel has just what the first one wants. */
    private static void exactlyEmpty(Checks t) {
        LongEstate x = estate(3, 0, 0);
        for (int round = 0; round < 2; round++) {
            tasteOften(x, 0, 112);
            x.top(0);
        }
        t.dueRow("10 in the last one", barrels(x, 0), 2250, 2250, 10);
        x.taste(0, 50);
        t.due("top(0)", x.top(0), 2);
        t.dueRow("it is left out", barrels(x, 0), 2250, 2250);
        x.taste(0, 50);
        t.due("out of the last one", x.top(0), 2);
        t.dueRow("then", barrels(x, 0), 2250, 2240);
    }

    private static void pass(Checks t) {
        LongEstate x = new LongEstate();
        refused(t, x, "pass(0)", INVALID, () -> x.pass(0));
        refused(t, x, "pass(-1)", INVALID, () -> x.pass(-1));
        refused(t, x, "pass(61)", INVALID, () -> x.pass(61));
        refused(t, x, "pass(MOST)", INVALID, () -> x.pass(MOST));
        t.due("pass without a lot", x.pass(1), 0);
        t.due("month", x.count(2), 1);
        x.lot(2, 50);
        x.lot(1, 25);
        x.lot(1, 0);
        t.due("pass(1)", x.pass(1), 112 + 112 + 56);
        t.dueRow("lot 0", barrels(x, 0), 2138, 2138);
        t.dueRow("lot 1", barrels(x, 1), 2194);
        t.dueRow("lot 2", barrels(x, 2), 2250);
        t.due("pass(3)", x.pass(3), 2 * (106 + 101 + 96) + 54 + 53 + 52);
        t.dueRow("1800 or more", barrels(x, 0), 1835, 1835);
        t.due("1835 to 1744 and 1744 to 1570", x.pass(2), 2 * (91 + 174) + 50 + 49);
        t.due("lost", x.count(5), 280 + 765 + 629);
        x.bottle(0);
        t.due("a bottled one loses nothing", x.pass(1), 48);
        monthLimit(t);
        LongEstate border = estate(1, 0, 0);
        tasteOften(border, 0, 45);
        t.dueRow("1800", barrels(border, 0), 1800);
        borderOfTwice(t);
    }

    /** 1800 loses once, less loses twice. */
    private static void borderOfTwice(Checks t) {
        LongEstate x = estate(1, 10, 0);
        tasteOften(x, 0, 45);
        t.due("1800 loses", x.pass(1), 18);
        t.due("1782 loses", x.pass(1), 34);
        LongEstate less = estate(1, 10, 0);
        tasteOften(less, 0, 46);
        t.due("1790 loses", less.pass(1), 34);
        LongEstate close = estate(1, 1, 0);
        tasteOften(close, 0, 25);
        t.due("2000 loses", close.pass(1), 2);
        t.due("1998 loses", close.pass(1), 1);
        tasteOften(close, 0, 19);
        close.pass(7);
        t.due("1800 loses with the rate 1", close.pass(1), 1);
        t.due("1799 loses", close.pass(1), 2);
    }

    private static void monthLimit(Checks t) {
        LongEstate x = estate(1, 1, 0);
        for (int i = 0; i < 16; i++) {
            x.pass(60);
        }
        t.due("month", x.count(2), 960);
        refused(t, x, "pass(40)", LIMIT, () -> x.pass(40));
        refused(t, x, "pass(61) there", INVALID, () -> x.pass(61));
        int before = x.lotOf(0, 2);
        t.due("pass(39)", x.pass(39), before - x.lotOf(0, 2));
        t.due("last month", x.count(2), 999);
        refused(t, x, "pass(1)", LIMIT, () -> x.pass(1));
        refused(t, x, "pass(0)", INVALID, () -> x.pass(0));
    }

    private static void bottle(Checks t) {
        LongEstate x = estate(2, 50, 3);
        refused(t, x, "bottle(-1)", INVALID, () -> x.bottle(-1));
        refused(t, x, "bottle(1)", INVALID, () -> x.bottle(1));
        x.sell(0, 0, 30, 20);
        x.sell(0, 2, 20, 31);
        x.pass(6);
        t.due("cases", x.lotOf(0, 3), 34);
        t.due("bottle(0)", x.bottle(0), 17);
        t.due("cases then", x.lotOf(0, 3), 34);
        t.due("held by 0: 30 * 34 / 50", x.holding(0, 0, 0), 20);
        t.due("held by 2: 20 * 34 / 50", x.holding(2, 0, 0), 13);
        t.due("paid by 0: 600 less 200", x.holding(0, 0, 1), 400);
        t.due("paid by 2: 620 less 217", x.holding(2, 0, 1), 403);
        t.due("account 0", x.account(0), -400);
        t.due("account 1", x.account(1), 0);
        t.due("account 2", x.account(2), -403);
        t.due("estate", x.account(-1), 803);
        t.dueRow("the latest entry", entryRow(x, 0), 2, 0, 2, 7, 217, NOT_FOUND);
        t.dueRow("the one ahead", entryRow(x, 1), 2, 0, 0, 10, 200, NOT_FOUND);
        t.dueRow("the sale", entryRow(x, 2), 0, 0, 2, 20, 31, NOT_FOUND);
        t.due("entries", x.count(9), 4);
        t.due("cut so far", x.count(8), 17);
        t.due("barrels", x.lotOf(0, 0), 0);
        t.due("lost", x.count(5), 1360);
        refused(t, x, "bottle again", NOT_POSSIBLE, () -> x.bottle(0));
        bottleWithEnough(t);
        bottleWithoutCases(t);
    }

    private static void bottleWithEnough(Checks t) {
        LongEstate x = estate(2, 0, 2);
        x.sell(0, 0, 24, 7);
        x.sell(0, 1, 26, 8);
        t.due("just enough", x.bottle(0), 0);
        t.due("held by 0", x.holding(0, 0, 0), 24);
        t.due("held by 1", x.holding(1, 0, 0), 26);
        t.due("no entry", x.count(9), 2);
        LongEstate less = estate(2, 0, 2);
        less.sell(0, 0, 24, 7);
        less.sell(0, 1, 26, 8);
        less.taste(0, 1);
        t.due("a case less", less.bottle(0), 2);
        t.due("each has one less", less.holding(0, 0, 0), 23);
        t.due("paid back", less.entry(0, 4), 8);
        t.due("cut so far", less.count(8), 2);
    }

    private static void bottleWithoutCases(Checks t) {
        LongEstate x = estate(1, 50, 2);
        x.sell(0, 1, 25, 999);
        x.pass(60);
        t.due("wine", x.lotOf(0, 2), 18);
        t.due("all are cut", x.bottle(0), 25);
        t.due("held", x.holding(1, 0, 0), 0);
        t.due("paid", x.holding(1, 0, 1), 0);
        t.due("account", x.account(1), 0);
        t.due("cases", x.lotOf(0, 4), 0);
        t.due("one entry", x.count(9), 2);
        t.due("a cut so great", x.entry(0, 4), 24975);
        t.due("mean", x.holding(1, 0, 3), NOT_FOUND);
    }

    private static void buyer(Checks t) {
        LongEstate x = new LongEstate();
        for (int i = 0; i < 6; i++) {
            t.due("buyer()", x.buyer(), i);
            t.due("its account", x.account(i), 0);
        }
        t.due("buyers", x.count(1), 6);
        refused(t, x, "a 7th buyer", LIMIT, () -> x.buyer());
        t.due("states", x.count(10), 4);
        x.undo();
        t.due("account(5)", x.account(5), INVALID);
        t.due("buyer() again", x.buyer(), 5);
    }

    private static void sell(Checks t) {
        LongEstate x = estate(2, 40, 2);
        x.set(0, 10);
        x.set(1, 12);
        refused(t, x, "sell(1, ..)", INVALID, () -> x.sell(1, 0, 1, 1));
        refused(t, x, "sell(-1, ..)", INVALID, () -> x.sell(-1, 0, 1, 1));
        refused(t, x, "buyer 2", INVALID, () -> x.sell(0, 2, 1, 1));
        refused(t, x, "buyer -1", INVALID, () -> x.sell(0, -1, 1, 1));
        refused(t, x, "0 cases", INVALID, () -> x.sell(0, 0, 0, 1));
        refused(t, x, "1000 cases", INVALID, () -> x.sell(0, 0, 1000, 1));
        refused(t, x, "999 cases", NOT_POSSIBLE, () -> x.sell(0, 0, 999, 1));
        refused(t, x, "price -1", INVALID, () -> x.sell(0, 0, 1, -1));
        refused(t, x, "price 1000", INVALID, () -> x.sell(0, 0, 1, 1000));
        refused(t, x, "21 cases", NOT_POSSIBLE, () -> x.sell(0, 0, 21, 1));
        t.due("15 cases", x.sell(0, 0, 15, 999), 15);
        refused(t, x, "6 cases more", NOT_POSSIBLE, () -> x.sell(0, 1, 6, 1));
        t.due("4 cases more", x.sell(0, 1, 4, 0), 4);
        t.due("the last case", x.sell(0, 0, 1, 3), 16);
        refused(t, x, "one too many", NOT_POSSIBLE, () -> x.sell(0, 1, 1, 0));
        t.due("paid by 0", x.holding(0, 0, 1), 14988);
        t.due("paid by 1", x.holding(1, 0, 1), 0);
        t.due("account 0", x.account(0), -14988);
        t.due("estate", x.account(-1), 14988);
        t.dueRow("entry", entryRow(x, 0), 0, 0, 0, 1, 3, NOT_FOUND);
        t.dueRow("entry 1", entryRow(x, 1), 0, 0, 1, 4, 0, NOT_FOUND);
        t.due("entries", x.count(9), 3);
        x.bottle(0);
        refused(t, x, "of a bottled one", NOT_POSSIBLE, () -> x.sell(0, 0, 1, 1));
        refused(t, x, "wrong, of a bottled one", INVALID, () -> x.sell(0, 0, 1, 1000));
        LongEstate two = estate(12, 0, 1);
        two.lot(1, 0);
        t.due("300 cases", two.sell(0, 0, 300, 999), 300);
        t.due("of another lot", two.sell(1, 0, 25, 1), 25);
        t.due("account", two.account(0), -299725);
    }

    private static void trade(Checks t) {
        LongEstate x = estate(2, 0, 3);
        x.sell(0, 0, 7, 10);
        x.sell(0, 1, 5, 4);
        refused(t, x, "lot 1", INVALID, () -> x.trade(1, 0, 1, 1, 1));
        refused(t, x, "lot -1", INVALID, () -> x.trade(-1, 0, 1, 1, 1));
        refused(t, x, "from 3", INVALID, () -> x.trade(0, 3, 1, 1, 1));
        refused(t, x, "from -1", INVALID, () -> x.trade(0, -1, 1, 1, 1));
        refused(t, x, "to 3", INVALID, () -> x.trade(0, 0, 3, 1, 1));
        refused(t, x, "to -1", INVALID, () -> x.trade(0, 0, -1, 1, 1));
        refused(t, x, "both the same", INVALID, () -> x.trade(0, 0, 0, 1, 1));
        refused(t, x, "0 cases", INVALID, () -> x.trade(0, 0, 1, 0, 1));
        refused(t, x, "1000 cases", INVALID, () -> x.trade(0, 0, 1, 1000, 1));
        refused(t, x, "price -1", INVALID, () -> x.trade(0, 0, 1, 1, -1));
        refused(t, x, "price 1000", INVALID, () -> x.trade(0, 0, 1, 1, 1000));
        refused(t, x, "8 cases", NOT_POSSIBLE, () -> x.trade(0, 0, 1, 8, 1));
        refused(t, x, "of one who has none", NOT_POSSIBLE, () -> x.trade(0, 2, 1, 1, 1));
        t.due("2 cases", x.trade(0, 0, 1, 2, 100), 7);
        t.due("held by 0", x.holding(0, 0, 0), 5);
        t.due("paid by 0: 70 less 20", x.holding(0, 0, 1), 50);
        t.due("paid by 1: 20 and 200", x.holding(1, 0, 1), 220);
        t.due("account 0", x.account(0), 130);
        t.due("account 1", x.account(1), -220);
        t.due("estate", x.account(-1), 90);
        t.dueRow("entry", entryRow(x, 0), 1, 0, 1, 2, 100, 0);
        t.due("rounded down: 220 * 3 / 7", x.trade(0, 1, 2, 3, 0), 3);
        t.due("paid by 1: 220 less 94", x.holding(1, 0, 1), 126);
        t.due("paid by 2", x.holding(2, 0, 1), 0);
        t.due("all that 1 has", x.trade(0, 1, 0, 4, 999), 9);
        t.due("paid by 1 then", x.holding(1, 0, 1), 0);
        t.due("paid by 0 then", x.holding(0, 0, 1), 50 + 3996);
        t.due("held of the lot", x.lotOf(0, 5), 12);
        x.bottle(0);
        t.due("of a bottled one", x.trade(0, 0, 2, 1, 1), 4);
        t.due("accounts together", x.count(3), 0);
        LongEstate many = estate(12, 0, 2);
        many.sell(0, 0, 300, 999);
        t.due("300 cases", many.trade(0, 0, 1, 300, 999), 300);
        t.due("back", many.trade(0, 1, 0, 299, 999), 299);
        t.due("paid by 1: 299700 less 298701", many.holding(1, 0, 1), 999);
    }

    private static void redeem(Checks t) {
        LongEstate x = estate(2, 0, 2);
        x.sell(0, 0, 7, 10);
        x.trade(0, 0, 1, 3, 33);
        refused(t, x, "of an open one", NOT_POSSIBLE, () -> x.redeem(0, 0, 1));
        refused(t, x, "wrong, of an open one", INVALID, () -> x.redeem(0, 0, 0));
        x.bottle(0);
        refused(t, x, "lot 1", INVALID, () -> x.redeem(1, 0, 1));
        refused(t, x, "lot -1", INVALID, () -> x.redeem(-1, 0, 1));
        refused(t, x, "buyer 2", INVALID, () -> x.redeem(0, 2, 1));
        refused(t, x, "buyer -1", INVALID, () -> x.redeem(0, -1, 1));
        refused(t, x, "0 cases", INVALID, () -> x.redeem(0, 0, 0));
        refused(t, x, "1000 cases", INVALID, () -> x.redeem(0, 0, 1000));
        refused(t, x, "999 cases", NOT_POSSIBLE, () -> x.redeem(0, 0, 999));
        refused(t, x, "5 cases", NOT_POSSIBLE, () -> x.redeem(0, 0, 5));
        t.due("1 of 3", x.redeem(0, 1, 1), 49);
        t.due("held", x.holding(1, 0, 0), 2);
        t.due("paid: 99 less 33", x.holding(1, 0, 1), 66);
        t.due("delivered", x.holding(1, 0, 2), 1);
        t.dueRow("entry", entryRow(x, 0), 3, 0, 1, 1, NOT_FOUND, NOT_FOUND);
        t.due("3 of 4", x.redeem(0, 0, 3), 46);
        t.due("paid: 40 less 30", x.holding(0, 0, 1), 10);
        t.due("the last one", x.redeem(0, 0, 1), 45);
        t.due("paid then", x.holding(0, 0, 1), 0);
        t.due("delivered then", x.holding(0, 0, 2), 4);
        refused(t, x, "none is left", NOT_POSSIBLE, () -> x.redeem(0, 0, 1));
        t.due("delivered of the lot", x.lotOf(0, 9), 5);
        t.due("delivered so far", x.count(7), 5);
        t.due("held of the lot", x.lotOf(0, 5), 2);
        t.due("accounts stay", x.account(0), -70 + 99);
        t.due("estate stays", x.account(-1), 70);
        t.due("cases when it was bottled", x.lotOf(0, 4), 50);
        LongEstate floor = estate(1, 0, 1);
        floor.sell(0, 0, 1, 5);
        floor.sell(0, 0, 2, 1);
        floor.bottle(0);
        floor.redeem(0, 0, 1);
        t.due("7 less 7 / 3", floor.holding(0, 0, 1), 5);
        floor.redeem(0, 0, 1);
        t.due("5 less 5 / 2", floor.holding(0, 0, 1), 3);
    }

    private static void set(Checks t) {
        LongEstate x = new LongEstate();
        refused(t, x, "set(-1, 0)", INVALID, () -> x.set(-1, 0));
        refused(t, x, "set(2, 0)", INVALID, () -> x.set(2, 0));
        refused(t, x, "set(0, -1)", INVALID, () -> x.set(0, -1));
        refused(t, x, "set(0, 101)", INVALID, () -> x.set(0, 101));
        refused(t, x, "set(1, -1)", INVALID, () -> x.set(1, -1));
        refused(t, x, "set(1, 37)", INVALID, () -> x.set(1, 37));
        t.due("set(0, 100)", x.set(0, 100), 10);
        t.due("set(0, 0)", x.set(0, 0), 100);
        t.due("set(1, 36)", x.set(1, 36), 12);
        t.due("set(1, 0)", x.set(1, 0), 36);
        t.due("set(1, 0) again", x.set(1, 0), 0);
        t.due("states", x.count(10), 4);
        t.due("the other one stays", x.count(20), 0);
        x.undo();
        x.undo();
        t.due("restored", x.count(21), 36);
    }

    private static void lotOf(Checks t) {
        LongEstate x = new LongEstate();
        t.due("without a lot", x.lotOf(0, 0), INVALID);
        x.lot(3, 50);
        x.lot(2, 20);
        x.buyer();
        x.buyer();
        x.sell(0, 0, 2, 9);
        x.sell(0, 1, 3, 9);
        x.pass(5);
        x.taste(0, 60);
        int[] open = {3, 50, 1744 * 3 - 10, 58, 14, 5, 46, 1, 0, 0};
        for (int what = 0; what < open.length; what++) {
            t.due("lotOf(0, " + what + ")", x.lotOf(0, what), open[what]);
        }
        x.set(0, 33);
        x.set(1, 0);
        t.due("expected: 58 * 67 / 100", x.lotOf(0, 4), 38);
        x.set(0, 100);
        t.due("nothing expected", x.lotOf(0, 4), 0);
        t.due("quote without a tasting", x.lotOf(1, 6), 10);
        t.due("tastings of the other one", x.lotOf(1, 7), 0);
        x.bottle(0);
        x.redeem(0, 1, 2);
        int[] bottled = {0, 50, 0, 56, 58, 3, 46, 1, 1, 2};
        for (int what = 0; what < bottled.length; what++) {
            t.due("bottled: lotOf(0, " + what + ")", x.lotOf(0, what), bottled[what]);
        }
        t.due("lotOf(0, -1)", x.lotOf(0, -1), INVALID);
        t.due("lotOf(0, 10)", x.lotOf(0, 10), INVALID);
        t.due("lotOf(-1, 0)", x.lotOf(-1, 0), INVALID);
        t.due("lotOf(2, 0)", x.lotOf(2, 0), INVALID);
        t.due("lotOf(MOST, LEAST)", x.lotOf(MOST, LEAST), INVALID);
    }

    private static void barrel(Checks t) {
        LongEstate x = new LongEstate();
        t.due("without a lot", x.barrel(0, 0), INVALID);
        x.lot(2, 10);
        x.lot(12, 0);
        t.due("barrel(0, 1)", x.barrel(0, 1), 2250);
        t.due("barrel(0, 2)", x.barrel(0, 2), NOT_FOUND);
        t.due("barrel(0, -1)", x.barrel(0, -1), INVALID);
        t.due("barrel(0, MOST)", x.barrel(0, MOST), NOT_FOUND);
        t.due("barrel(0, LEAST)", x.barrel(0, LEAST), INVALID);
        t.due("barrel(2, 0)", x.barrel(2, 0), INVALID);
        t.due("barrel(-1, 0)", x.barrel(-1, 0), INVALID);
        t.due("barrel(2, MOST)", x.barrel(2, MOST), INVALID);
        t.due("barrel(1, 11)", x.barrel(1, 11), 2250);
        t.due("barrel(1, 12)", x.barrel(1, 12), NOT_FOUND);
        x.taste(0, 5);
        x.pass(1);
        t.due("the first one", x.barrel(0, 0), 2218);
        t.due("the second one", x.barrel(0, 1), 2228);
        x.bottle(0);
        t.due("of a bottled one", x.barrel(0, 0), NOT_FOUND);
        t.due("below 0 of a bottled one", x.barrel(0, -1), INVALID);
    }

    private static void holding(Checks t) {
        LongEstate x = estate(12, 0, 2);
        t.due("none", x.holding(0, 0, 0), 0);
        t.due("nothing paid", x.holding(0, 0, 1), 0);
        t.due("none delivered", x.holding(0, 0, 2), 0);
        t.due("no mean", x.holding(0, 0, 3), NOT_FOUND);
        t.due("what -1", x.holding(0, 0, -1), INVALID);
        t.due("what 4", x.holding(0, 0, 4), INVALID);
        t.due("buyer 2", x.holding(2, 0, 0), INVALID);
        t.due("buyer -1", x.holding(-1, 0, 0), INVALID);
        t.due("lot 1", x.holding(0, 1, 0), INVALID);
        t.due("lot -1", x.holding(0, -1, 3), INVALID);
        x.sell(0, 1, 3, 0);
        t.due("mean 0", x.holding(1, 0, 3), 0);
        int paid = 0;
        for (int price = 1; price <= 40; price++) {
            x.sell(0, 1, 7, price * 24 + 1);
            paid += 7 * (price * 24 + 1);
            int held = 3 + 7 * price;
            t.due("held", x.holding(1, 0, 0), held);
            t.due("paid", x.holding(1, 0, 1), paid);
            t.due("mean", x.holding(1, 0, 3), Float.floatToIntBits((float) paid / (float) held));
        }
        t.due("of the other one", x.holding(0, 0, 0), 0);
        smallMeans(t);
    }

    private static void smallMeans(Checks t) {
        LongEstate x = estate(12, 0, 1);
        x.sell(0, 0, 1, 1);
        t.due("mean 1", x.holding(0, 0, 3), 0x3f800000);
        LongEstate y = estate(12, 0, 1);
        y.sell(0, 0, 3, 2);
        t.due("mean 2", y.holding(0, 0, 3), 0x40000000);
        y.sell(0, 0, 1, 999);
        t.due("mean 251.25", y.holding(0, 0, 3), 0x437b4000);
        for (int held = 2; held <= 100; held++) {
            x.sell(0, 0, 1, 0);
            t.due("mean 1 / " + held, x.holding(0, 0, 3), Float.floatToIntBits(1f / (float) held));
        }
    }

    private static void account(Checks t) {
        LongEstate x = new LongEstate();
        t.due("account(-1)", x.account(-1), 0);
        t.due("account(0)", x.account(0), INVALID);
        t.due("account(-2)", x.account(-2), INVALID);
        t.due("account(MOST)", x.account(MOST), INVALID);
        t.due("account(LEAST)", x.account(LEAST), INVALID);
        x.set(0, 0);
        x.set(1, 0);
        x.lot(2, 0);
        x.buyer();
        x.buyer();
        t.due("account(1)", x.account(1), 0);
        t.due("account(2)", x.account(2), INVALID);
        x.sell(0, 0, 10, 5);
        t.due("sold: account(0)", x.account(0), -50);
        t.due("sold: account(-1)", x.account(-1), 50);
        x.trade(0, 0, 1, 5, 20);
        t.due("traded: account(0)", x.account(0), 50);
        t.due("traded: account(1)", x.account(1), -100);
        t.due("traded: account(-1)", x.account(-1), 50);
    }

    private static void entry(Checks t) {
        LongEstate x = estate(2, 0, 2);
        t.due("entry(0, 0)", x.entry(0, 0), NOT_FOUND);
        t.due("entry(-1, 0)", x.entry(-1, 0), INVALID);
        t.due("entry(0, -1)", x.entry(0, -1), INVALID);
        t.due("entry(0, 6)", x.entry(0, 6), INVALID);
        t.due("entry(MOST, 0)", x.entry(MOST, 0), NOT_FOUND);
        t.due("entry(LEAST, 0)", x.entry(LEAST, 0), INVALID);
        x.sell(0, 1, 40, 8);
        t.dueRow("sale", entryRow(x, 0), 0, 0, 1, 40, 8, NOT_FOUND);
        x.trade(0, 1, 0, 15, 9);
        t.dueRow("trade", entryRow(x, 0), 1, 0, 0, 15, 9, 1);
        t.dueRow("the sale behind it", entryRow(x, 1), 0, 0, 1, 40, 8, NOT_FOUND);
        t.due("entry(2, 0)", x.entry(2, 0), NOT_FOUND);
        t.due("entry(2, 6)", x.entry(2, 6), INVALID);
        x.bottle(0);
        x.redeem(0, 0, 4);
        t.dueRow("delivery", entryRow(x, 0), 3, 0, 0, 4, NOT_FOUND, NOT_FOUND);
        t.dueRow("no cut ahead of it", entryRow(x, 1), 1, 0, 0, 15, 9, 1);
        for (int i = 1; i <= 12; i++) {
            t.due("entries", x.count(9), Math.min(12, 2 + i));
            x.trade(0, 1, 0, 1, i);
        }
        t.due("12 are kept", x.count(9), 12);
        for (int i = 0; i < 12; i++) {
            t.dueRow("entry " + i, entryRow(x, i), 1, 0, 0, 1, 12 - i, 1);
        }
        t.due("entry(12, 0)", x.entry(12, 0), NOT_FOUND);
        t.due("entry(11, 6)", x.entry(11, 6), INVALID);
        x.undo();
        t.dueRow("undone", entryRow(x, 0), 1, 0, 0, 1, 11, 1);
        t.dueRow("undone, the oldest one", entryRow(x, 11), 3, 0, 0, 4, NOT_FOUND, NOT_FOUND);
        entriesOfAnotherLot(t);
    }

    private static void entriesOfAnotherLot(Checks t) {
        LongEstate x = estate(1, 0, 2);
        x.lot(1, 50);
        x.sell(1, 0, 25, 4);
        t.dueRow("sale of lot 1", entryRow(x, 0), 0, 1, 0, 25, 4, NOT_FOUND);
        x.trade(1, 0, 1, 5, 6);
        t.dueRow("trade of lot 1", entryRow(x, 0), 1, 1, 1, 5, 6, 0);
        x.pass(2);
        t.due("cut", x.bottle(1), 4);
        t.dueRow("cut of buyer 1", entryRow(x, 0), 2, 1, 1, 1, 6, NOT_FOUND);
        t.dueRow("cut of buyer 0", entryRow(x, 1), 2, 1, 0, 3, 12, NOT_FOUND);
        x.redeem(1, 1, 2);
        t.dueRow("delivery of lot 1", entryRow(x, 0), 3, 1, 1, 2, NOT_FOUND, NOT_FOUND);
    }

    private static void cases(Checks t) {
        LongEstate x = new LongEstate();
        t.due("without a lot", x.cases(0, 0), INVALID);
        x.lot(2, 40);
        x.lot(1, 0);
        t.due("cases(0, 0)", x.cases(0, 0), 50);
        t.due("cases(0, 1)", x.cases(0, 1), 48);
        t.due("cases(0, 6)", x.cases(0, 6), 39);
        t.due("cases(0, 12)", x.cases(0, 12), 23);
        t.due("cases(0, 120)", x.cases(0, 120), 0);
        t.due("cases(1, 120)", x.cases(1, 120), 25);
        t.due("cases(0, 121)", x.cases(0, 121), INVALID);
        t.due("cases(0, -1)", x.cases(0, -1), INVALID);
        t.due("cases(2, 0)", x.cases(2, 0), INVALID);
        t.due("cases(-1, 0)", x.cases(-1, 0), INVALID);
        t.due("nothing passes", x.lotOf(0, 2), 4500);
        x.bottle(0);
        t.due("of a bottled one", x.cases(0, 0), NOT_POSSIBLE);
        t.due("wrong, of a bottled one", x.cases(0, 121), INVALID);
        LongEstate far = estate(1, 50, 0);
        for (int i = 0; i < 17; i++) {
            far.pass(i < 16 ? 60 : 39);
        }
        t.due("behind the last month", far.cases(0, 120), 0);
    }

    private static void sellable(Checks t) {
        LongEstate x = new LongEstate();
        t.due("without a lot", x.sellable(0), INVALID);
        t.due("sellable(-1)", x.sellable(-1), INVALID);
        x.lot(2, 40);
        x.buyer();
        t.due("sellable(0)", x.sellable(0), 20);
        x.sell(0, 0, 5, 0);
        t.due("5 are sold", x.sellable(0), 15);
        x.sell(0, 0, 15, 0);
        t.due("all are sold", x.sellable(0), 0);
        x.pass(6);
        t.due("never below 0", x.sellable(0), 0);
        x.set(0, 0);
        x.set(1, 0);
        t.due("39 less 20", x.sellable(0), 19);
        x.set(0, 1);
        t.due("38 less 20", x.sellable(0), 18);
        x.bottle(0);
        t.due("of a bottled one", x.sellable(0), NOT_POSSIBLE);
    }

    private static void deadline(Checks t) {
        LongEstate x = estate(2, 40, 2);
        t.due("deadline(1)", x.deadline(1), INVALID);
        t.due("deadline(-1)", x.deadline(-1), INVALID);
        t.due("none held", x.deadline(0), NOT_FOUND);
        x.sell(0, 0, 30, 1);
        x.sell(0, 1, 9, 1);
        t.due("39 held, 39 behind 6 months", x.deadline(0), 7);
        x.sell(0, 1, 1, 1);
        t.due("40 held", x.deadline(0), 6);
        x.sell(0, 1, 10, 1);
        t.due("50 held", x.deadline(0), 1);
        x.taste(0, 5);
        t.due("fewer already", x.deadline(0), 0);
        x.bottle(0);
        t.due("of a bottled one", x.deadline(0), NOT_POSSIBLE);
        lateDeadline(t);
    }

    /** 2250 loses 2 in a month with the rate 1, until it has less than 2000, then 1. */
    private static void lateDeadline(Checks t) {
        LongEstate x = estate(1, 1, 1);
        x.sell(0, 0, 23, 1);
        t.due("below 2070 behind 91 months", x.deadline(0), 91);
        x.undo();
        x.sell(0, 0, 22, 1);
        t.due("below 1980 behind 145 months", x.deadline(0), NOT_FOUND);
        x.pass(24);
        t.due("behind 121 months", x.deadline(0), NOT_FOUND);
        x.pass(1);
        t.due("behind 120 months", x.deadline(0), 120);
        x.set(1, 36);
        t.due("setting 1 is not asked", x.deadline(0), 120);
    }

    private static void topping(Checks t) {
        LongEstate x = new LongEstate();
        t.due("without a lot", x.topping(0), INVALID);
        t.due("topping(-1)", x.topping(-1), INVALID);
        x.lot(3, 50);
        t.due("all are full", x.topping(0), NOT_POSSIBLE);
        x.pass(6);
        t.due("12 months", x.topping(0), 4);
        x.set(0, 100);
        t.due("setting 0 is not asked", x.topping(0), 4);
        x.set(1, 0);
        t.due("at once", x.topping(0), 0);
        t.dueRow("nothing is done", barrels(x, 0), 1570, 1570, 1570);
        x.top(0);
        t.due("topped up", x.topping(0), NOT_POSSIBLE);
        x.lot(1, 50);
        x.pass(1);
        t.due("one barrel", x.topping(1), NOT_POSSIBLE);
        x.bottle(0);
        t.due("of a bottled one", x.topping(0), NOT_POSSIBLE);
        toppingThatLoses(t);
    }

    /** Of the two the last one has less than 1800 then, so that it loses twice. */
    private static void toppingThatLoses(Checks t) {
        LongEstate x = estate(2, 50, 0);
        x.pass(2);
        tasteOften(x, 0, 23);
        t.dueRow("before", barrels(x, 0), 1802, 2032);
        x.set(1, 1);
        t.due("below 0", x.topping(0), -1);
    }

    private static void loser(Checks t) {
        LongEstate x = estate(2, 40, 3);
        t.due("none held", x.loser(0, 0), NOT_FOUND);
        t.due("loser(0, 2)", x.loser(0, 2), INVALID);
        t.due("loser(0, -1)", x.loser(0, -1), INVALID);
        t.due("loser(1, 0)", x.loser(1, 0), INVALID);
        t.due("loser(-1, 0)", x.loser(-1, 0), INVALID);
        x.sell(0, 0, 15, 1);
        x.sell(0, 1, 20, 1);
        x.sell(0, 2, 15, 1);
        t.due("enough", x.loser(0, 0), NOT_FOUND);
        t.due("enough, how many", x.loser(0, 1), NOT_FOUND);
        x.pass(6);
        t.due("39 of 50", x.loser(0, 0), 1);
        t.due("39 of 50, how many", x.loser(0, 1), 5);
        x.trade(0, 1, 2, 5, 0);
        x.trade(0, 2, 0, 2, 0);
        t.dueRow("held", new int[] {x.holding(0, 0, 0), x.holding(1, 0, 0), x.holding(2, 0, 0)}, 17, 15, 18);
        t.due("17 to 13, 15 to 11, 18 to 14: the lowest of several", x.loser(0, 0), 0);
        t.due("4 each", x.loser(0, 1), 4);
        t.due("nothing is done", x.lotOf(0, 8), 0);
        int most = x.loser(0, 1);
        x.bottle(0);
        t.due("as foretold", 17 - x.holding(0, 0, 0), most);
        t.due("of a bottled one", x.loser(0, 0), NOT_POSSIBLE);
        t.due("wrong, of a bottled one", x.loser(0, 2), INVALID);
    }

    private static void count(Checks t) {
        LongEstate x = estate(2, 50, 3);
        x.lot(1, 0);
        x.sell(0, 0, 30, 3);
        x.sell(0, 1, 20, 4);
        x.sell(1, 2, 5, 5);
        x.pass(6);
        t.due("wine in open lots", x.count(4), 3140 + 2250);
        t.due("held of all lots", x.count(6), 55);
        x.bottle(0);
        x.redeem(0, 1, 3);
        x.bottle(1);
        x.redeem(1, 2, 2);
        x.lot(1, 50);
        Checks.typeAll(x, "m1;");
        int[] want = {3, 3, 6, 0, 2250, 1360, 20 + 10 + 3, 5, 17, 7, 4, 3};
        for (int what = 0; what < want.length; what++) {
            t.due("count(" + what + ")", x.count(what), want[what]);
        }
        x.set(0, 44);
        x.set(1, 33);
        t.due("count(20)", x.count(20), 44);
        t.due("count(21)", x.count(21), 33);
        for (int what = 12; what <= 19; what++) {
            t.due("count(" + what + ")", x.count(what), INVALID);
        }
        t.due("count(-1)", x.count(-1), INVALID);
        t.due("count(22)", x.count(22), INVALID);
        t.due("count(LEAST)", x.count(LEAST), INVALID);
        t.due("count(MOST)", x.count(MOST), INVALID);
    }

    private static void undo(Checks t) {
        LongEstate x = new LongEstate();
        t.due("empty", x.undo(), NOT_POSSIBLE);
        String[] states = new String[7];
        states[0] = Checks.snapshot(x);
        x.lot(2, 50);
        states[1] = Checks.snapshot(x);
        x.buyer();
        states[2] = Checks.snapshot(x);
        x.sell(0, 0, 3, 7);
        states[3] = Checks.snapshot(x);
        x.pass(3);
        states[4] = Checks.snapshot(x);
        x.bottle(0);
        states[5] = Checks.snapshot(x);
        x.redeem(0, 0, 1);
        x.type('m');
        t.due("4 states at most", x.count(10), 4);
        for (int left = 3; left >= 0; left--) {
            t.due("undo()", x.undo(), left);
            t.that("state " + (left + 2), states[left + 2].equals(Checks.snapshot(x)));
            t.due("states", x.count(10), left);
        }
        refused(t, x, "undo() of none", NOT_POSSIBLE, () -> x.undo());
        t.due("the text stays", x.count(11), 1);
        t.due("a change again", x.pass(1), 224);
        t.due("undo() of it", x.undo(), 0);
        t.that("state 2 again", states[2].equals(Checks.snapshot(x)));
        everyChange(t);
    }

    /** Each kind of change is a state of its own, and taken back. */
    private static void everyChange(Checks t) {
        LongEstate x = estate(2, 50, 2);
        Call[] changes = {
            () -> x.lot(1, 1), () -> x.buyer(), () -> x.sell(0, 0, 50, 3), () -> x.taste(0, 44), () -> x.pass(2),
            () -> x.top(0), () -> x.trade(0, 0, 1, 2, 9), () -> x.set(0, 55), () -> x.bottle(0),
            () -> x.redeem(0, 1, 1), () -> x.play(),
        };
        for (int i = 0; i < changes.length; i++) {
            String before = Checks.snapshot(x);
            changes[i].answer();
            String after = Checks.snapshot(x);
            int states = x.count(10);
            t.due("undo() of change " + i, x.undo(), states - 1);
            t.that("undone " + i, before.equals(Checks.snapshot(x)));
            changes[i].answer();
            t.that("done again " + i, after.equals(Checks.snapshot(x)));
            t.due("states " + i, x.count(10), states);
        }
    }

    private static void type(Checks t) {
        LongEstate x = new LongEstate();
        refused(t, x, "type(31)", INVALID, () -> x.type(31));
        refused(t, x, "type(127)", INVALID, () -> x.type(127));
        refused(t, x, "type(-1)", INVALID, () -> x.type(-1));
        refused(t, x, "type(MOST)", INVALID, () -> x.type(MOST));
        t.due("type(32)", x.type(32), 1);
        t.due("type(126)", x.type(126), 2);
        for (int length = 3; length <= 60; length++) {
            t.due("type('m')", x.type('m'), length);
        }
        refused(t, x, "a 61st character", LIMIT, () -> x.type('m'));
        refused(t, x, "a wrong 61st character", INVALID, () -> x.type(127));
        t.due("length", x.count(11), 60);
        t.due("no change", x.count(10), 0);
        x.buyer();
        x.undo();
        t.due("undo() leaves it", x.count(11), 60);
    }

    private static void clearText(Checks t) {
        LongEstate x = new LongEstate();
        t.due("empty", x.clearText(), 0);
        Checks.typeAll(x, "m1;m2;x");
        t.due("7 characters", x.clearText(), 7);
        t.due("then", x.clearText(), 0);
        t.due("length", x.count(11), 0);
        t.due("no fault", x.fault(0), NOT_FOUND);
        t.due("no order", x.play(), 0);
        Checks.typeAll(x, "b0;");
        x.clearText();
        Checks.typeAll(x, "m");
        t.due("nothing of the old one", x.fault(2), 1);
        t.due("no change", x.count(10), 1);
    }

    private static void fault(Checks t) {
        LongEstate x = new LongEstate();
        t.due("fault(-1)", x.fault(-1), INVALID);
        t.due("fault(3)", x.fault(3), INVALID);
        t.due("empty", x.fault(0), NOT_FOUND);
        x.lot(2, 0);
        x.buyer();
        formFaults(t, x);
        refusedOrders(t, x);
        t.due("lots", x.count(0), 1);
        t.due("month", x.count(2), 0);
        t.due("states", x.count(10), 2);
    }

    private static void faultOf(Checks t, LongEstate x, String text, int position, int reason, int cause) {
        Checks.retype(x, text);
        t.due("position in " + text, x.fault(0), position);
        t.due("reason in " + text, x.fault(1), reason);
        t.due("cause in " + text, x.fault(2), cause);
        t.due("wrong, in " + text, x.fault(3), INVALID);
        refused(t, x, "play of " + text, NOT_POSSIBLE, () -> x.play());
    }

    private static void noFault(Checks t, LongEstate x, String text) {
        Checks.retype(x, text);
        for (int what = 0; what <= 2; what++) {
            t.due("fault in " + text, x.fault(what), NOT_FOUND);
        }
    }

    private static void formFaults(Checks t, LongEstate x) {
        String[] texts = {"x", ";", " m1;", "1", "l", "l,", "l1", "l1;", "l1,", "l1,;", "l1,2", "l1,2,", "l1234,1;",
            "l1,0001;", "L1,1;", "s0", "s0,0;", "s0,0,1;", "s0,0,1,", "s0,0,1,1", "s0,0,1,1,", "s0 ,0", "t0,", "t0,5",
            "m", "m;", "m1", "m1,", "m0001;", "m-1;", "b", "b;", "b0", "b0,", "b0 ;", "m1:", "m1/", "p1;"};
        int[] causes = {0, 0, 0, 0, 1, 1, 2, 2, 3, 3, 4, 4, 4,
            6, 0, 2, 4, 6, 7, 8, 8, 2, 3, 4,
            1, 1, 2, 2, 4, 1, 1, 1, 2, 2, 2, 2, 2, 0};
        t.due("as many causes", causes.length, texts.length);
        for (int i = 0; i < texts.length; i++) {
            faultOf(t, new LongEstate(), texts[i], 0, 1, causes[i]);
        }
        faultOf(t, x, "m1;t0,50;m1", 9, 1, 2);
        faultOf(t, x, "m1; m1;", 3, 1, 0);
        faultOf(t, x, "m1;;", 3, 1, 0);
    }

    private static void refusedOrders(Checks t, LongEstate x) {
        faultOf(t, x, "l0,0;", 0, 2, INVALID);
        faultOf(t, x, "l13,0;x", 0, 2, INVALID);
        faultOf(t, x, "m1;l1,51;", 3, 2, INVALID);
        faultOf(t, x, "m0;", 0, 2, INVALID);
        faultOf(t, x, "m61;", 0, 2, INVALID);
        faultOf(t, x, "b1;", 0, 2, INVALID);
        faultOf(t, x, "b0;b0;", 3, 2, NOT_POSSIBLE);
        faultOf(t, x, "t0,101;", 0, 2, INVALID);
        faultOf(t, x, "b0;t0,1;", 3, 2, NOT_POSSIBLE);
        faultOf(t, x, "s0,0,46,1;", 0, 2, NOT_POSSIBLE);
        faultOf(t, x, "s0,0,45,1;s0,0,1,1;", 10, 2, NOT_POSSIBLE);
        faultOf(t, x, "s0,1,1,1;", 0, 2, INVALID);
        faultOf(t, x, "s0,0,0,1;", 0, 2, INVALID);
        faultOf(t, x, "l1,0;l1,0;l1,0;l1,0;l1,0;l1,0;", 25, 2, LIMIT);
        LongEstate late = new LongEstate();
        late.pass(60);
        late.pass(60);
        faultOf(t, late, "m60;m60;m60;m60;m60;m60;m60;m60;m60;m60;m60;m60;m60;m60;m60;", 56, 2, LIMIT);
    }

    private static void play(Checks t) {
        LongEstate x = new LongEstate();
        t.due("empty", x.play(), 0);
        t.due("a change", x.count(10), 1);
        x.buyer();
        Checks.typeAll(x, "l2,40;s0,0,9,25;t0,90;m12;b0;");
        t.due("5 orders", x.play(), 5);
        t.due("one change", x.count(10), 3);
        t.due("the text stays", x.count(11), 29);
        LongEstate y = new LongEstate();
        y.play();
        y.buyer();
        y.lot(2, 40);
        y.sell(0, 0, 9, 25);
        y.taste(0, 90);
        y.pass(12);
        y.bottle(0);
        t.that("as the calls", Checks.snapshot(x).equals(Checks.snapshot(y)));
        t.due("again: lot 0 is bottled", x.play(), NOT_POSSIBLE);
        t.due("undo()", x.undo(), 2);
        t.due("no lot", x.count(0), 0);
        t.due("played again", x.play(), 5);
        t.that("as the calls again", Checks.snapshot(x).equals(Checks.snapshot(y)));
        Checks.retype(x, "l01,007;");
        t.due("0 ahead", x.play(), 1);
        t.due("barrels", x.lotOf(1, 0), 1);
        t.due("rate", x.lotOf(1, 1), 7);
        Checks.retype(x, "m1;m1;m1;m1;m1;m1;m1;m1;m1;m1;m1;m1;m1;m1;m1;m1;m1;m1;m1;m1;");
        t.due("20 orders", x.play(), 20);
        t.due("month", x.count(2), 32);
        noFault(t, x, "m60;");
        Checks.retype(x, "m1;m");
        refused(t, x, "an order too short", NOT_POSSIBLE, () -> x.play());
        x.clearText();
        String before = Checks.snapshot(x);
        t.due("none", x.play(), 0);
        t.that("nothing but a state", before.equals(Checks.snapshot(x)));
        t.due("states", x.count(10), 4);
        x.undo();
        t.due("month then", x.count(2), 32);
        x.undo();
        t.due("all of a text are one change", x.count(2), 12);
    }
}
