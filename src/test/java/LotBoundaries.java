/** The boundaries that the document's terms name for numbers, lots, barrels and settings. */
public final class LotBoundaries extends EstateTests {
    public static void main(String[] args) {
        Sentences s = new Sentences();
        s.holds("All divisions are rounded down.", LotBoundaries::roundedDown);
        s.holds("Wine is told in tenths of litres; a case takes 90.", LotBoundaries::caseOf90);
        s.holds("Months are counted from 0.", LotBoundaries::monthsFrom0);
        s.holds("There are at most 6 lots, numbered from 0 in the order in which they came", LotBoundaries::sixLots);
        s.holds("each with barrels (1 to 12), numbered from 0, each with 2250 at first", LotBoundaries::twelveBarrels);
        s.holds("and a rate (0 to 50).", LotBoundaries::rates);
        s.holds("each barrel with wine loses (its wine times the rate, divided by 1000, rounded down)",
            LotBoundaries::loses);
        s.holds("and twice this rounded number if it has less than 1800.", LotBoundaries::losesTwice);
        s.holds("A barrel without wine is left out: those behind it have numbers that are less by 1.",
            LotBoundaries::leftOut);
        s.holds("A lot is open, or bottled; a bottled one has cases in place of barrels.", LotBoundaries::openOrBottled);
        s.holds("as long as any barrel but the last one has less than 2250, and the last one has wine, the first such"
            + " barrel gets wine out of the last one", LotBoundaries::lessThanFull);
        s.holds("until it has 2250 or the last one has none", LotBoundaries::untilFullOrNone);
        s.holds("then that is left out, and it goes on with the one that is the last one then.", LotBoundaries::goesOn);
        s.holds("A tasting takes 10 out of the first barrel that has at least 10", LotBoundaries::atLeast10);
        s.holds("and has a score (0 to 100).", LotBoundaries::scores);
        s.holds("The quote of a lot is 10 plus (the mean of its scores, times itself, divided by 100), or 10 without a"
            + " tasting.", LotBoundaries::quotes);
        s.holds("The cases of a lot are all its wine together divided by 90.", LotBoundaries::allTogether);
        s.holds("The expected cases are the cases that there would be behind setting 1 months, without anything else"
            + " done, times (100 less setting 0), divided by 100.", LotBoundaries::expected);
        s.holds("The settings are (in parentheses: range; first value): 0 (0 to 100; 10), 1 (0 to 36; 12).",
            LotBoundaries::settings);
        s.end();
    }

    private static void roundedDown(Checks t) {
        t.due("a loss of 90", aged(1, 40, 0).pass(1), 90);
        LongEstate less = estate(1, 40, 0);
        less.taste(0, 0);
        t.due("a loss of 89.6", less.pass(1), 89);
        LongEstate close = aged(1, 10, 12);
        t.dueRow("wine", barrels(close, 0), 1999);
        t.due("a loss of 19.99", close.pass(1), 19);
        LongEstate x = estate(2, 0, 1);
        x.set(0, 2);
        t.due("50 times 98 by 100", x.lotOf(0, 4), 49);
        x.set(0, 3);
        t.due("50 times 97 by 100, 48.5", x.lotOf(0, 4), 48);
        x.set(0, 1);
        t.due("50 times 99 by 100, 49.5", x.lotOf(0, 4), 49);
    }

    private static void caseOf90(Checks t) {
        int[][] lots = {{31, 58, 89, 0}, {32, 55, 90, 1}, {24, 59, 179, 1}, {50, 27, 180, 2}};
        for (int[] lot : lots) {
            LongEstate x = aged(1, lot[0], lot[1]);
            String name = "with " + lot[2];
            t.due("wine", x.lotOf(0, 2), lot[2]);
            t.due("cases " + name, x.lotOf(0, 3), lot[3]);
            t.due("cases(0, 0) " + name, x.cases(0, 0), lot[3]);
            t.due("expected " + name, x.lotOf(0, 4), lot[3]);
            t.due("sellable " + name, x.sellable(0), lot[3]);
            refused(t, x, "one too many " + name, NOT_POSSIBLE, () -> x.sell(0, 0, lot[3] + 1, 1));
            if (lot[3] > 0) {
                t.due("all " + name, x.sell(0, 0, lot[3], 1), lot[3]);
            }
            t.due("none is cut " + name, x.bottle(0), 0);
            t.due("bottled " + name, x.lotOf(0, 3), lot[3]);
        }
    }

    private static void monthsFrom0(Checks t) {
        LongEstate x = new LongEstate();
        t.due("at first", x.count(2), 0);
        x.lot(1, 0);
        x.buyer();
        t.due("no month has passed", x.count(2), 0);
        x.pass(1);
        t.due("a month", x.count(2), 1);
        x.pass(60);
        t.due("61 months", x.count(2), 61);
    }

    private static void sixLots(Checks t) {
        LongEstate x = new LongEstate();
        for (int i = 0; i < 6; i++) {
            t.due("ahead of lot " + i, x.lotOf(i, 1), INVALID);
            t.due("lot " + i, x.lot(i + 1, 10 * i), i);
            t.due("lots", x.count(0), i + 1);
        }
        for (int i = 0; i < 6; i++) {
            t.due("rate of lot " + i, x.lotOf(i, 1), 10 * i);
            t.due("barrels of lot " + i, x.lotOf(i, 0), i + 1);
        }
        refused(t, x, "a 7th lot", LIMIT, () -> x.lot(1, 0));
        t.due("lot 6", x.lotOf(6, 0), INVALID);
        t.due("lot -1", x.lotOf(-1, 0), INVALID);
        x.bottle(0);
        refused(t, x, "a bottled one counts still", LIMIT, () -> x.lot(1, 0));
        x.undo();
        x.undo();
        t.due("lot 5 is taken back", x.lotOf(5, 0), INVALID);
        t.due("another lot 5", x.lot(2, 3), 5);
        t.due("its rate", x.lotOf(5, 1), 3);
        refused(t, x, "a 7th lot again", LIMIT, () -> x.lot(1, 0));
    }

    private static void twelveBarrels(Checks t) {
        LongEstate x = new LongEstate();
        refused(t, x, "no barrel", INVALID, () -> x.lot(0, 10));
        t.due("one barrel", x.lot(1, 10), 0);
        t.dueRow("of lot 0", barrels(x, 0), 2250);
        t.due("no barrel 1", x.barrel(0, 1), NOT_FOUND);
        t.due("twelve barrels", x.lot(12, 10), 1);
        int[] full = new int[12];
        java.util.Arrays.fill(full, 2250);
        t.dueRow("of lot 1", barrels(x, 1), full);
        t.due("no barrel 12", x.barrel(1, 12), NOT_FOUND);
        t.due("no barrel -1", x.barrel(1, -1), INVALID);
        refused(t, x, "13 barrels", INVALID, () -> x.lot(13, 10));
        t.due("two lots", x.count(0), 2);
    }

    private static void rates(Checks t) {
        LongEstate x = new LongEstate();
        refused(t, x, "rate -1", INVALID, () -> x.lot(1, -1));
        refused(t, x, "rate 51", INVALID, () -> x.lot(1, 51));
        t.due("rate 0", x.lot(1, 0), 0);
        t.due("nothing is lost", x.pass(60), 0);
        t.due("rate 50", x.lot(1, 50), 1);
        t.due("112.5 rounded down is lost", x.pass(1), 112);
        t.due("rate 1", x.lot(1, 1), 2);
        t.dueRow("with the rate 0", barrels(x, 0), 2250);
    }

    private static void loses(Checks t) {
        t.due("2250 times 50", aged(1, 50, 0).pass(1), 112);
        LongEstate one = aged(1, 50, 52);
        t.dueRow("20 with the rate 50", barrels(one, 0), 20);
        t.due("20 times 50 is 1000", one.pass(1), 2);
        t.due("18 times 50 is 900", one.pass(1), 0);
        LongEstate none = aged(1, 49, 54);
        t.dueRow("19 with the rate 49", barrels(none, 0), 19);
        t.due("19 times 49 is 931", none.pass(60), 0);
        t.dueRow("19 stays", barrels(none, 0), 19);
        LongEstate edge = aged(1, 48, 55);
        t.dueRow("20 with the rate 48", barrels(edge, 0), 20);
        t.due("20 times 48 is 960", edge.pass(60), 0);
        LongEstate all = aged(12, 50, 0);
        t.due("12 barrels, each rounded for itself", all.pass(1), 12 * 112);
        t.due("lost so far", all.count(5), 12 * 112);
    }

    private static void losesTwice(Checks t) {
        LongEstate above = estate(1, 43, 0);
        above.taste(0, 0);
        above.pass(5);
        t.dueRow("1800", barrels(above, 0), 1800);
        t.due("1800 times 43 by 1000 once", above.pass(1), 77);
        LongEstate below = aged(1, 44, 5);
        t.dueRow("1799", barrels(below, 0), 1799);
        t.due("79 twice", below.pass(1), 158);
        LongEstate rounded = aged(1, 7, 33);
        t.dueRow("1799 with the rate 7", barrels(rounded, 0), 1799);
        t.due("12.593 is rounded ahead of being doubled", rounded.pass(1), 24);
        LongEstate both = aged(2, 40, 5);
        tasteOften(both, 0, 4);
        t.dueRow("one is below", barrels(both, 0), 1797, 1837);
        t.due("71 twice and 73 once", both.pass(1), 142 + 73);
        t.dueRow("each for itself", barrels(both, 0), 1655, 1764);
        LongEstate foretold = aged(1, 44, 5);
        t.due("cases foretold: 1641 by 90", foretold.cases(0, 1), 18);
    }

    private static void leftOut(Checks t) {
        LongEstate first = aged(12, 48, 55);
        t.due("20 in each of 12", first.lotOf(0, 2), 240);
        first.taste(0, 1);
        t.due("10 left: it stays", first.lotOf(0, 0), 12);
        t.due("10 in the first one", first.barrel(0, 0), 10);
        first.taste(0, 1);
        t.due("11 barrels", first.lotOf(0, 0), 11);
        t.due("their wine", first.lotOf(0, 2), 220);
        t.due("wine in open lots", first.count(4), 220);
        t.due("the last one is number 10", first.barrel(0, 10), 20);
        t.due("no number 11", first.barrel(0, 11), NOT_FOUND);
        tasteOften(first, 0, 21);
        t.dueRow("10 in the last one of all", barrels(first, 0), 10);
        first.taste(0, 1);
        t.due("none is left", first.lotOf(0, 0), 0);
        t.due("no wine", first.lotOf(0, 2), 0);
        t.due("no number 0", first.barrel(0, 0), NOT_FOUND);
        first.undo();
        t.dueRow("undone", barrels(first, 0), 10);
        middleLeftOut(t);
    }

    private static void middleLeftOut(Checks t) {
        LongEstate x = estate(4, 50, 0);
        tasteOften(x, 0, 2);
        x.pass(52);
        t.dueRow("four", barrels(x, 0), 21, 20, 20, 20);
        tasteOften(x, 0, 3);
        t.dueRow("two are tasted", barrels(x, 0), 1, 10, 20, 20);
        x.taste(0, 1);
        t.dueRow("number 1 is left out", barrels(x, 0), 1, 20, 20);
        t.due("all wine", x.lotOf(0, 2), 41);
        tasteOften(x, 0, 2);
        t.dueRow("number 1 again", barrels(x, 0), 1, 20);
        tasteOften(x, 0, 2);
        t.dueRow("the last one", barrels(x, 0), 1);
        refused(t, x, "1 is too little", NOT_POSSIBLE, () -> x.taste(0, 1));
    }

    private static void openOrBottled(Checks t) {
        LongEstate x = estate(3, 0, 1);
        t.due("open", x.lotOf(0, 8), 0);
        t.due("barrels", x.lotOf(0, 0), 3);
        t.due("wine in open lots", x.count(4), 6750);
        x.bottle(0);
        t.due("bottled", x.lotOf(0, 8), 1);
        t.due("no barrels", x.lotOf(0, 0), 0);
        t.due("no barrel 0", x.barrel(0, 0), NOT_FOUND);
        t.due("no wine", x.lotOf(0, 2), 0);
        t.due("no wine in open lots", x.count(4), 0);
        t.due("cases", x.lotOf(0, 3), 75);
        t.due("nothing to lose", x.pass(60), 0);
        t.due("cases then", x.lotOf(0, 3), 75);
    }

    private static void lessThanFull(Checks t) {
        LongEstate full = estate(12, 0, 0);
        refused(t, full, "all are full", NOT_POSSIBLE, () -> full.top(0));
        t.due("topping of full ones", full.topping(0), NOT_POSSIBLE);
        LongEstate last = estate(3, 0, 0);
        last.taste(0, 1);
        t.due("the first one has less", last.top(0), 3);
        t.dueRow("out of the last one", barrels(last, 0), 2250, 2250, 2240);
        refused(t, last, "the last one alone has less", NOT_POSSIBLE, () -> last.top(0));
        LongEstate little = aged(2, 1, 1);
        t.dueRow("2 are missing", barrels(little, 0), 2248, 2248);
        t.due("top(0)", little.top(0), 2);
        t.dueRow("2 are poured", barrels(little, 0), 2250, 2246);
        LongEstate one = aged(1, 50, 1);
        refused(t, one, "one barrel alone", NOT_POSSIBLE, () -> one.top(0));
        LongEstate none = aged(1, 48, 55);
        tasteOften(none, 0, 2);
        t.due("no barrel", none.lotOf(0, 0), 0);
        refused(t, none, "without a barrel", NOT_POSSIBLE, () -> none.top(0));
        LongEstate three = aged(3, 1, 1);
        t.due("top(0) of three", three.top(0), 3);
        t.dueRow("the first ones first", barrels(three, 0), 2250, 2250, 2244);
    }

    private static void untilFullOrNone(Checks t) {
        LongEstate exact = aged(2, 13, 36);
        t.dueRow("just what is missing", barrels(exact, 0), 1125, 1125);
        t.due("top(0)", exact.top(0), 1);
        t.dueRow("full, and none in the last one", barrels(exact, 0), 2250);
        refused(t, exact, "again", NOT_POSSIBLE, () -> exact.top(0));
        LongEstate more = aged(2, 42, 11);
        t.dueRow("one more each", barrels(more, 0), 1126, 1126);
        t.due("top(0) of more", more.top(0), 2);
        t.dueRow("2 are left", barrels(more, 0), 2250, 2);
        refused(t, more, "more, again", NOT_POSSIBLE, () -> more.top(0));
        LongEstate less = aged(2, 21, 22);
        t.dueRow("one less each", barrels(less, 0), 1124, 1124);
        t.due("top(0) of less", less.top(0), 1);
        t.dueRow("2 are missing", barrels(less, 0), 2248);
        refused(t, less, "less, again", NOT_POSSIBLE, () -> less.top(0));
    }

    private static void goesOn(Checks t) {
        LongEstate three = aged(3, 11, 62);
        t.dueRow("three thirds", barrels(three, 0), 750, 750, 750);
        t.due("top(0) of three thirds", three.top(0), 1);
        t.dueRow("in one", barrels(three, 0), 2250);
        LongEstate more = aged(3, 41, 16);
        t.dueRow("one more each", barrels(more, 0), 751, 751, 751);
        t.due("top(0) of more", more.top(0), 2);
        t.dueRow("3 are left", barrels(more, 0), 2250, 3);
        LongEstate twelve = aged(12, 11, 62);
        t.due("top(0) of twelve thirds", twelve.top(0), 4);
        t.dueRow("in four", barrels(twelve, 0), 2250, 2250, 2250, 2250);
        t.due("no wine is lost", twelve.lotOf(0, 2), 9000);
        LongEstate little = aged(12, 49, 54);
        t.due("top(0) of 19 in each", little.top(0), 1);
        t.dueRow("all in the first one", barrels(little, 0), 228);
    }

    private static void atLeast10(Checks t) {
        LongEstate ten = aged(1, 48, 55);
        ten.taste(0, 1);
        t.dueRow("10", barrels(ten, 0), 10);
        t.due("taste of 10", ten.taste(0, 1), 10);
        t.due("all is taken", ten.lotOf(0, 2), 0);
        refused(t, ten, "no barrel has wine", NOT_POSSIBLE, () -> ten.taste(0, 1));
        LongEstate nine = aged(1, 49, 54);
        nine.taste(0, 1);
        t.dueRow("9", barrels(nine, 0), 9);
        refused(t, nine, "taste of 9", NOT_POSSIBLE, () -> nine.taste(0, 1));
        LongEstate two = aged(2, 49, 54);
        two.taste(0, 1);
        t.dueRow("the first one has 9", barrels(two, 0), 9, 19);
        t.due("the second one", two.taste(0, 1), 10);
        t.dueRow("both have 9", barrels(two, 0), 9, 9);
        refused(t, two, "18 together, but 9 each", NOT_POSSIBLE, () -> two.taste(0, 1));
    }

    private static void scores(Checks t) {
        LongEstate x = estate(1, 0, 0);
        refused(t, x, "-1", INVALID, () -> x.taste(0, -1));
        refused(t, x, "101", INVALID, () -> x.taste(0, 101));
        t.due("0", x.taste(0, 0), 10);
        t.due("0 and 100: a mean of 50", x.taste(0, 100), 35);
        t.due("two tastings", x.lotOf(0, 7), 2);
    }

    private static void quotes(Checks t) {
        int[][] rows = {{0, 10}, {9, 10}, {10, 11}, {14, 11}, {15, 12}, {99, 108}, {100, 110}};
        for (int[] row : rows) {
            LongEstate x = estate(1, 0, 0);
            t.due("without a tasting", x.lotOf(0, 6), 10);
            t.due("the score " + row[0], x.taste(0, row[0]), row[1]);
            t.due("the quote then", x.lotOf(0, 6), row[1]);
            x.undo();
            t.due("the tasting undone", x.lotOf(0, 6), 10);
        }
        LongEstate mean = estate(1, 0, 0);
        mean.taste(0, 10);
        t.due("a mean of 9.5 counts as 9", mean.taste(0, 9), 10);
        t.due("a mean of 10 again", mean.taste(0, 11), 11);
        LongEstate rounded = estate(1, 0, 0);
        rounded.taste(0, 14);
        t.due("14.5 counts as 14, whose square is 196", rounded.taste(0, 15), 11);
        mean.bottle(0);
        t.due("it stays when the lot is bottled", mean.lotOf(0, 6), 11);
    }

    private static void allTogether(Checks t) {
        LongEstate x = aged(2, 1, 5);
        t.dueRow("24 cases and 80 each", barrels(x, 0), 2240, 2240);
        t.due("49 together", x.lotOf(0, 3), 49);
        t.due("cases(0, 0)", x.cases(0, 0), 49);
        x.bottle(0);
        t.due("bottled together", x.lotOf(0, 3), 49);
        LongEstate little = aged(12, 49, 54);
        t.due("12 of 19 are 228", little.lotOf(0, 3), 2);
    }

    private static void expected(Checks t) {
        LongEstate x = new LongEstate();
        x.lot(2, 40);
        t.due("23 behind 12 months, times 90 by 100", x.lotOf(0, 4), 20);
        x.set(0, 0);
        t.due("setting 0 is 0", x.lotOf(0, 4), 23);
        x.set(0, 100);
        t.due("setting 0 is 100", x.lotOf(0, 4), 0);
        x.set(0, 99);
        t.due("setting 0 is 99", x.lotOf(0, 4), 0);
        x.set(0, 0);
        x.set(1, 0);
        t.due("setting 1 is 0", x.lotOf(0, 4), 50);
        x.set(1, 1);
        t.due("setting 1 is 1", x.lotOf(0, 4), 48);
        LongEstate far = new LongEstate();
        far.lot(12, 10);
        far.set(0, 0);
        far.set(1, 35);
        t.due("setting 1 is 35", far.lotOf(0, 4), 189);
        far.set(1, 36);
        t.due("setting 1 is 36", far.lotOf(0, 4), 185);
        far.bottle(0);
        t.due("a bottled one has its cases", far.lotOf(0, 4), 300);
    }

    private static void settings(Checks t) {
        LongEstate x = new LongEstate();
        t.due("setting 0 at first", x.count(20), 10);
        t.due("setting 1 at first", x.count(21), 12);
        refused(t, x, "setting 0 to -1", INVALID, () -> x.set(0, -1));
        refused(t, x, "setting 0 to 101", INVALID, () -> x.set(0, 101));
        refused(t, x, "setting 1 to -1", INVALID, () -> x.set(1, -1));
        refused(t, x, "setting 1 to 37", INVALID, () -> x.set(1, 37));
        t.due("setting 0 to 0", x.set(0, 0), 10);
        t.due("setting 0 to 100", x.set(0, 100), 0);
        t.due("setting 1 to 0", x.set(1, 0), 12);
        t.due("setting 1 to 36", x.set(1, 36), 0);
        t.due("setting 0 then", x.count(20), 100);
        t.due("setting 1 then", x.count(21), 36);
    }
}
