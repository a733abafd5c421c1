/** The boundaries that the document's terms name for buyers, futures and the book. */
public final class FuturesBoundaries extends EstateTests {
    public static void main(String[] args) {
        Sentences s = new Sentences();
        s.holds("There are at most 6 buyers, numbered from 0 in the order in which they came",
            FuturesBoundaries::sixBuyers);
        s.holds("each with an account (0 at first, it can be below 0).", FuturesBoundaries::buyersAccounts);
        s.holds("The estate has an account, too.", FuturesBoundaries::estateAccount);
        s.holds("A buyer holds futures of lots (a number of cases each), and what was paid for those that are held.",
            FuturesBoundaries::heldByLot);
        s.holds("Futures of an open lot can be sold as long as all that are held of the lot, with these, are at most"
            + " the expected cases.", FuturesBoundaries::atMostExpected);
        s.holds("The buyer pays the estate the price for each case.", FuturesBoundaries::pricePaid);
        s.holds("When futures are traded, the buyer pays the seller the price for each", FuturesBoundaries::tradePaid);
        s.holds("what was paid for the seller's becomes less by (what was paid, times the traded ones, divided by those"
            + " held before)", FuturesBoundaries::sellersShare);
        s.holds("what was paid for the buyer's becomes more by what is paid now.", FuturesBoundaries::buyersShare);
        s.holds("If all futures that are held of it are more than these, each buyer's are cut to (those held, times the"
            + " cases, divided by all that are held)", FuturesBoundaries::cutIfMore);
        s.holds("and the estate pays back to the buyer (what was paid, times those that are cut, divided by those held"
            + " before), by which what was paid becomes less.", FuturesBoundaries::paidBack);
        s.holds("The buyers come in their order.", FuturesBoundaries::buyersInOrder);
        s.holds("Futures of a bottled lot can be redeemed: the buyer gets as many cases of it",
            FuturesBoundaries::redeemed);
        s.holds("what was paid for them is out of what was paid for those that are held (that times the redeemed ones,"
            + " divided by those held before).", FuturesBoundaries::redeemedShare);
        s.holds("The latest 12 entries are kept, the latest one first", FuturesBoundaries::twelveEntries);
        s.holds("0 a sale, 1 a trade, 2 cut futures of a buyer (one for each buyer by whom any were cut), 3 a delivery.",
            FuturesBoundaries::kinds);
        s.end();
    }

    private static void sixBuyers(Checks t) {
        LongEstate x = new LongEstate();
        x.lot(1, 0);
        for (int i = 0; i < 6; i++) {
            t.due("ahead of buyer " + i, x.account(i), INVALID);
            t.due("holding ahead of buyer " + i, x.holding(i, 0, 0), INVALID);
            t.due("buyer " + i, x.buyer(), i);
            t.due("its account", x.account(i), 0);
            t.due("buyers", x.count(1), i + 1);
        }
        for (int i = 0; i < 6; i++) {
            t.due("sold to buyer " + i, x.sell(0, i, 1, 10 + i), 1);
        }
        for (int i = 0; i < 6; i++) {
            t.due("account of buyer " + i, x.account(i), -10 - i);
        }
        refused(t, x, "a 7th buyer", LIMIT, () -> x.buyer());
        refused(t, x, "sold to buyer 6", INVALID, () -> x.sell(0, 6, 1, 1));
        t.due("account of buyer 6", x.account(6), INVALID);
    }

    private static void buyersAccounts(Checks t) {
        LongEstate x = estate(1, 0, 2);
        t.due("at first", x.account(0), 0);
        x.sell(0, 0, 1, 1);
        t.due("below 0", x.account(0), -1);
        x.trade(0, 0, 1, 1, 1);
        t.due("0 again", x.account(0), 0);
        t.due("the other one", x.account(1), -1);
        LongEstate far = estate(12, 0, 2);
        far.sell(0, 0, 300, 999);
        t.due("far below 0", far.account(0), -299700);
        for (int i = 0; i < 200; i++) {
            far.trade(0, i % 2, 1 - i % 2, 300, i % 2 == 0 ? 0 : 999);
        }
        t.due("100 times 299700 more", far.account(0), -299700 - 29970000);
        t.due("of the other one", far.account(1), 29970000);
        t.due("paid for what is held", far.holding(0, 0, 1), 299700);
    }

    private static void estateAccount(Checks t) {
        LongEstate x = estate(1, 50, 2);
        t.due("at first", x.account(-1), 0);
        x.sell(0, 0, 25, 0);
        t.due("sold for nothing", x.account(-1), 0);
        x.trade(0, 0, 1, 25, 999);
        t.due("a trade is not the estate's", x.account(-1), 0);
        x.pass(60);
        t.due("all are cut", x.bottle(0), 25);
        t.due("below 0", x.account(-1), -24975);
        t.due("the one who sold", x.account(0), 24975);
        t.due("the one who is paid back", x.account(1), 0);
        t.due("all together", x.count(3), 0);
    }

    private static void heldByLot(Checks t) {
        LongEstate x = estate(1, 0, 6);
        for (int i = 1; i < 6; i++) {
            x.lot(1, 0);
        }
        for (int i = 0; i < 6; i++) {
            t.due("lot " + i, x.sell(i, 5 - i, i + 1, 100 * i), i + 1);
        }
        for (int lot = 0; lot < 6; lot++) {
            int[] held = new int[6];
            int[] paid = new int[6];
            held[5 - lot] = lot + 1;
            paid[5 - lot] = (lot + 1) * 100 * lot;
            t.dueRow("held of lot " + lot, ofBuyers(x, lot, 0), held);
            t.dueRow("paid for those of lot " + lot, ofBuyers(x, lot, 1), paid);
        }
        t.due("of all lots", x.count(6), 21);
    }

    private static void atMostExpected(Checks t) {
        LongEstate x = new LongEstate();
        x.lot(2, 40);
        x.buyer();
        x.buyer();
        refused(t, x, "21 of 20", NOT_POSSIBLE, () -> x.sell(0, 0, 21, 1));
        t.due("20 of 20", x.sell(0, 0, 20, 1), 20);
        refused(t, x, "one more", NOT_POSSIBLE, () -> x.sell(0, 0, 1, 1));
        refused(t, x, "one more to another one", NOT_POSSIBLE, () -> x.sell(0, 1, 1, 1));
        x.undo();
        t.due("19 of 20", x.sell(0, 0, 19, 1), 19);
        refused(t, x, "2 more", NOT_POSSIBLE, () -> x.sell(0, 1, 2, 1));
        t.due("1 more to another one", x.sell(0, 1, 1, 1), 1);
        x.trade(0, 0, 1, 19, 1);
        refused(t, x, "a trade makes no room", NOT_POSSIBLE, () -> x.sell(0, 0, 1, 1));
        x.set(0, 6);
        t.due("23 times 94 by 100", x.sellable(0), 1);
        t.due("21 of 21", x.sell(0, 0, 1, 1), 1);
        x.pass(12);
        refused(t, x, "more are held than expected", NOT_POSSIBLE, () -> x.sell(0, 0, 1, 1));
        LongEstate none = estate(1, 31, 1);
        none.pass(58);
        refused(t, none, "1 of 0", NOT_POSSIBLE, () -> none.sell(0, 0, 1, 0));
        LongEstate full = estate(12, 0, 1);
        refused(t, full, "301 of 300", NOT_POSSIBLE, () -> full.sell(0, 0, 301, 1));
        t.due("300 of 300", full.sell(0, 0, 300, 1), 300);
        LongEstate set = estate(1, 0, 1);
        set.set(0, 100);
        refused(t, set, "setting 0 is 100", NOT_POSSIBLE, () -> set.sell(0, 0, 1, 1));
        set.bottle(0);
        refused(t, set, "bottled", NOT_POSSIBLE, () -> set.sell(0, 0, 1, 1));
    }

    private static void pricePaid(Checks t) {
        LongEstate x = estate(1, 0, 1);
        x.sell(0, 0, 3, 0);
        t.due("for nothing", x.account(0), 0);
        t.due("nothing paid", x.holding(0, 0, 1), 0);
        x.sell(0, 0, 4, 999);
        t.due("4 times 999", x.account(0), -3996);
        t.due("the estate has it", x.account(-1), 3996);
        t.due("paid", x.holding(0, 0, 1), 3996);
        x.sell(0, 0, 1, 1);
        t.due("1 more", x.holding(0, 0, 1), 3997);
    }

    private static void tradePaid(Checks t) {
        LongEstate x = estate(1, 0, 2);
        x.sell(0, 0, 3, 5);
        refused(t, x, "4 of 3", NOT_POSSIBLE, () -> x.trade(0, 0, 1, 4, 7));
        refused(t, x, "of one who has none", NOT_POSSIBLE, () -> x.trade(0, 1, 0, 1, 7));
        t.due("3 of 3", x.trade(0, 0, 1, 3, 7), 3);
        t.dueRow("held", ofBuyers(x, 0, 0), 0, 3);
        t.due("-15 and 21", x.account(0), 6);
        t.due("less 21", x.account(1), -21);
        t.due("the estate's stays", x.account(-1), 15);
        x.trade(0, 1, 0, 1, 0);
        t.due("for nothing", x.account(0), 6);
        t.due("1 is held then", x.holding(0, 0, 0), 1);
        LongEstate other = estate(1, 0, 2);
        other.lot(1, 0);
        other.sell(0, 0, 3, 5);
        refused(t, other, "futures of another lot", NOT_POSSIBLE, () -> other.trade(1, 0, 1, 1, 7));
    }

    private static void sellersShare(Checks t) {
        LongEstate x = estate(1, 0, 2);
        x.sell(0, 0, 1, 5);
        x.sell(0, 0, 2, 1);
        t.due("3 for 7", x.holding(0, 0, 1), 7);
        x.trade(0, 0, 1, 1, 0);
        t.due("less 7 by 3, that is 2", x.holding(0, 0, 1), 5);
        x.trade(0, 0, 1, 1, 0);
        t.due("less 5 by 2, that is 2", x.holding(0, 0, 1), 3);
        x.trade(0, 0, 1, 1, 0);
        t.due("the last one: less 3", x.holding(0, 0, 1), 0);
        t.due("none is held", x.holding(0, 0, 0), 0);
        LongEstate all = estate(1, 0, 2);
        all.sell(0, 0, 3, 333);
        all.trade(0, 0, 1, 3, 0);
        t.due("all at once", all.holding(0, 0, 1), 0);
        LongEstate great = estate(12, 0, 2);
        great.sell(0, 0, 300, 999);
        great.trade(0, 0, 1, 299, 0);
        t.due("299700 times 299 by 300", great.holding(0, 0, 1), 999);
    }

    private static void buyersShare(Checks t) {
        LongEstate x = estate(1, 0, 2);
        x.sell(0, 0, 3, 5);
        x.trade(0, 0, 1, 1, 999);
        t.due("the first one", x.holding(1, 0, 1), 999);
        x.trade(0, 0, 1, 1, 0);
        t.due("for nothing", x.holding(1, 0, 1), 999);
        x.trade(0, 0, 1, 1, 1);
        t.due("1 more", x.holding(1, 0, 1), 1000);
    }

    private static void cutIfMore(Checks t) {
        LongEstate none = estate(1, 0, 2);
        t.due("none held", none.bottle(0), 0);
        t.due("no entry", none.count(9), 0);
        LongEstate same = estate(1, 0, 2);
        same.sell(0, 0, 13, 3);
        same.sell(0, 1, 12, 3);
        t.due("25 of 25", same.bottle(0), 0);
        t.dueRow("held", ofBuyers(same, 0, 0), 13, 12);
        t.due("no entry of a cut", same.count(9), 2);
        t.due("no cut so far", same.count(8), 0);
        LongEstate more = estate(1, 0, 2);
        more.sell(0, 0, 13, 3);
        more.sell(0, 1, 12, 3);
        more.taste(0, 50);
        t.due("25 of 24", more.bottle(0), 2);
        t.dueRow("13 times 24 by 25, 12 times 24 by 25", ofBuyers(more, 0, 0), 12, 11);
        t.due("two are cut so far", more.count(8), 2);
        t.due("a case is left over", more.lotOf(0, 3) - more.lotOf(0, 5), 1);
        cutToNothing(t);
    }

    private static void cutToNothing(Checks t) {
        LongEstate one = estate(1, 32, 3);
        one.sell(0, 0, 1, 5);
        one.sell(0, 1, 1, 7);
        one.pass(55);
        t.due("a case for two", one.bottle(0), 2);
        t.dueRow("1 times 1 by 2", ofBuyers(one, 0, 0), 0, 0, 0);
        t.dueRow("nothing is paid", ofBuyers(one, 0, 1), 0, 0, 0);
        t.due("the case stays", one.lotOf(0, 3), 1);
        t.due("accounts", one.account(-1), 0);
        t.due("entries", one.count(9), 4);
        LongEstate alone = estate(1, 32, 1);
        alone.sell(0, 0, 1, 5);
        alone.pass(55);
        t.due("a case for one", alone.bottle(0), 0);
        t.due("held", alone.holding(0, 0, 0), 1);
        LongEstate without = estate(1, 31, 1);
        without.sell(0, 0, 1, 5);
        without.pass(58);
        t.due("no case for one", without.bottle(0), 1);
        t.due("account", without.account(0), 0);
        LongEstate others = estate(1, 31, 1);
        others.lot(1, 0);
        others.sell(0, 0, 1, 5);
        others.sell(1, 0, 25, 5);
        others.pass(58);
        t.due("those of another lot stay", others.bottle(0), 1);
        t.due("25 of lot 1", others.holding(0, 1, 0), 25);
    }

    private static void paidBack(Checks t) {
        LongEstate x = estate(1, 50, 1);
        x.sell(0, 0, 1, 5);
        x.sell(0, 0, 2, 1);
        x.pass(27);
        t.due("3 of 2", x.bottle(0), 1);
        t.due("7 by 3 is paid back", x.entry(0, 4), 2);
        t.due("paid then", x.holding(0, 0, 1), 5);
        t.due("account", x.account(0), -5);
        t.due("the estate's", x.account(-1), 5);
        LongEstate nothing = estate(1, 50, 1);
        nothing.sell(0, 0, 3, 0);
        nothing.pass(27);
        t.due("3 of 2 for nothing", nothing.bottle(0), 1);
        t.dueRow("an entry of 0", entryRow(nothing, 0), 2, 0, 0, 1, 0, NOT_FOUND);
        t.due("nothing is paid back", nothing.account(0), 0);
        LongEstate all = estate(12, 50, 2);
        all.sell(0, 0, 300, 999);
        all.pass(60);
        t.due("2 of 300", all.bottle(0), 298);
        t.due("299700 times 298 by 300", all.entry(0, 4), 297702);
        t.due("for 2", all.holding(0, 0, 1), 1998);
    }

    private static void buyersInOrder(Checks t) {
        LongEstate x = estate(1, 50, 6);
        for (int buyer = 5; buyer >= 0; buyer--) {
            if (buyer != 2) {
                x.sell(0, buyer, 5, buyer);
            }
        }
        x.pass(27);
        t.due("2 cases: all are cut", x.bottle(0), 25);
        int[] order = {5, 4, 3, 1, 0};
        for (int i = 0; i < order.length; i++) {
            t.dueRow("entry " + i, entryRow(x, i), 2, 0, order[i], 5, 5 * order[i], NOT_FOUND);
        }
        t.dueRow("none of buyer 2: a sale is behind them", entryRow(x, 5), 0, 0, 0, 5, 0, NOT_FOUND);
    }

    private static void redeemed(Checks t) {
        LongEstate x = estate(1, 0, 2);
        x.sell(0, 0, 3, 5);
        refused(t, x, "of an open lot", NOT_POSSIBLE, () -> x.redeem(0, 0, 1));
        x.bottle(0);
        refused(t, x, "4 of 3", NOT_POSSIBLE, () -> x.redeem(0, 0, 4));
        refused(t, x, "of one who has none", NOT_POSSIBLE, () -> x.redeem(0, 1, 1));
        t.due("3 of 3", x.redeem(0, 0, 3), 22);
        t.due("delivered to 0", x.holding(0, 0, 2), 3);
        refused(t, x, "1 of 0", NOT_POSSIBLE, () -> x.redeem(0, 0, 1));
        LongEstate all = estate(1, 0, 1);
        all.sell(0, 0, 25, 5);
        all.bottle(0);
        t.due("24 of 25", all.redeem(0, 0, 24), 1);
        t.due("the last case", all.redeem(0, 0, 1), 0);
        t.due("none is left", all.lotOf(0, 3), 0);
        t.due("25 are delivered", all.lotOf(0, 9), 25);
        t.due("cases when it was bottled", all.lotOf(0, 4), 25);
        LongEstate bought = estate(1, 0, 2);
        bought.sell(0, 0, 1, 5);
        bought.bottle(0);
        bought.trade(0, 0, 1, 1, 9);
        t.due("traded when it was bottled", bought.redeem(0, 1, 1), 24);
    }

    private static void redeemedShare(Checks t) {
        LongEstate x = estate(1, 0, 1);
        x.sell(0, 0, 1, 5);
        x.sell(0, 0, 2, 1);
        x.bottle(0);
        x.redeem(0, 0, 1);
        t.due("7 less 7 by 3", x.holding(0, 0, 1), 5);
        x.redeem(0, 0, 2);
        t.due("all", x.holding(0, 0, 1), 0);
        t.due("the account stays", x.account(0), -7);
        t.due("the estate's stays", x.account(-1), 7);
    }

    private static void twelveEntries(Checks t) {
        LongEstate x = estate(12, 0, 2);
        refused(t, x, "a sale that is not possible", NOT_POSSIBLE, () -> x.sell(0, 0, 301, 1));
        t.due("no entry", x.entry(0, 0), NOT_FOUND);
        for (int i = 1; i <= 14; i++) {
            x.sell(0, 0, i, i);
            t.due("entries", x.count(9), Math.min(i, 12));
            t.due("the latest one", x.entry(0, 3), i);
            t.due("the oldest one", x.entry(Math.min(i, 12) - 1, 3), Math.max(1, i - 11));
            t.due("behind it", x.entry(Math.min(i, 12), 3), NOT_FOUND);
        }
        x.undo();
        t.due("undone: the latest one", x.entry(0, 3), 13);
        t.due("undone: the oldest one", x.entry(11, 3), 2);
        t.due("undone: entries", x.count(9), 12);
        cutsInTheBook(t);
    }

    private static void cutsInTheBook(Checks t) {
        LongEstate x = estate(1, 31, 6);
        for (int i = 0; i < 12; i++) {
            x.sell(0, i % 6, 1, i);
        }
        t.due("12 sales", x.count(9), 12);
        x.pass(58);
        t.due("no case: all are cut", x.bottle(0), 12);
        t.due("12 entries", x.count(9), 12);
        for (int i = 0; i < 6; i++) {
            t.dueRow("cut " + i, entryRow(x, i), 2, 0, 5 - i, 2, 2 * (5 - i) + 6, NOT_FOUND);
            t.dueRow("sale " + i, entryRow(x, 6 + i), 0, 0, 5 - i, 1, 11 - i, NOT_FOUND);
        }
        x.undo();
        t.dueRow("undone: the latest one", entryRow(x, 0), 0, 0, 5, 1, 11, NOT_FOUND);
        t.dueRow("undone: the oldest one", entryRow(x, 11), 0, 0, 0, 1, 0, NOT_FOUND);
    }

    private static void kinds(Checks t) {
        LongEstate x = estate(2, 0, 3);
        x.sell(0, 0, 30, 4);
        t.dueRow("a sale", entryRow(x, 0), 0, 0, 0, 30, 4, NOT_FOUND);
        x.trade(0, 0, 2, 20, 9);
        t.dueRow("a trade", entryRow(x, 0), 1, 0, 2, 20, 9, 0);
        x.sell(0, 2, 20, 1);
        tasteOften(x, 0, 9);
        t.due("a cut", x.bottle(0), 2);
        t.due("one for each of two buyers", x.count(9), 5);
        t.dueRow("40 held for 200, 1 cut", entryRow(x, 0), 2, 0, 2, 1, 5, NOT_FOUND);
        t.dueRow("10 held for 40, 1 cut", entryRow(x, 1), 2, 0, 0, 1, 4, NOT_FOUND);
        x.redeem(0, 2, 3);
        t.dueRow("a delivery", entryRow(x, 0), 3, 0, 2, 3, NOT_FOUND, NOT_FOUND);
        x.lot(1, 0);
        x.buyer();
        x.taste(1, 50);
        x.top(1);
        x.pass(1);
        x.set(0, 1);
        x.play();
        t.due("nothing else is an entry", x.count(9), 6);
    }
}
