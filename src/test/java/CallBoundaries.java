/** The boundaries that promises 1 to 27 name: of each argument, and of what each call returns. */
public final class CallBoundaries extends EstateTests {
    private interface Ask {
        int answer(LongEstate x, int value);
    }

    private interface Made {
        LongEstate estate();
    }

    private interface Number {
        int answer(int value);
    }

    public static void main(String[] args) {
        Sentences s = new Sentences();
        s.holds("An object is used for at most 512 calls after it has been made", CallBoundaries::calls512);
        s.holds("Creates an estate without lots and buyers.", CallBoundaries::newObject);
        argumentsOfChanges(s);
        argumentsOfQuestions(s);
        changesReturn(s);
        questionsReturn(s);
        restReturns(s);
        s.end();
    }

    private static void argumentsOfChanges(Sentences s) {
        s.holds("- `barrels`: 1 to 12", t -> range(t, 1, 12, () -> estate(1, 0, 0), (x, v) -> x.lot(v, 0)));
        s.holds("- `score`: 0 to 100", t -> range(t, 0, 100, () -> estate(1, 0, 0), (x, v) -> x.taste(0, v)));
        s.holds("- `months`: 1 to 60", t -> range(t, 1, 60, () -> estate(1, 0, 0), (x, v) -> x.pass(v)));
        s.holds("- `cases`: 1 to 999", CallBoundaries::cases1To999);
        s.holds("- `price`: 0 to 999", CallBoundaries::price0To999);
        s.holds("- `from`: number of the buyer who has them", t -> numbers(t, 6, v -> {
            LongEstate x = ofSix();
            return v == 0 ? x.trade(0, v, 1, 1, 1) : x.trade(0, v, 0, 1, 1);
        }));
        s.holds("- `to`: number of another buyer", t -> numbers(t, 6, v -> {
            LongEstate x = ofSix();
            return v == 0 ? x.trade(0, 1, v, 1, 1) : x.trade(0, 0, v, 1, 1);
        }));
        s.holds("- `what`: 0 or 1", t -> range(t, 0, 1, () -> estate(1, 0, 0), (x, v) -> x.set(v, 5)));
        s.holds("- `value`: a value in its range", CallBoundaries::valueInItsRange);
    }

    private static void argumentsOfQuestions(Sentences s) {
        s.holds("- `lot`: number of the lot", CallBoundaries::lotNumbers);
        s.holds("- `buyer`: number of the buyer", CallBoundaries::buyerNumbers);
        s.holds("- `what`: 0: barrels (0 if it is bottled); 1: its rate;",
            t -> range(t, 0, 9, () -> estate(1, 0, 1), (x, v) -> x.lotOf(0, v)));
        s.holds("- `barrel`: 0 for the first one, and so on", CallBoundaries::barrelNumbers);
        s.holds("- `what`: 0: futures; 1: what was paid for these; 2: cases delivered so far; 3: the bits of the mean"
            + " paid, as a float", t -> range(t, 0, 3, CallBoundaries::ofSix, (x, v) -> x.holding(0, 0, v)));
        s.holds("- `whose`: number of the buyer, or -1 for the estate", CallBoundaries::whose);
        s.holds("- `index`: 0 for the latest one, and so on", CallBoundaries::entryNumbers);
        s.holds("- `what`: 0: its kind; 1: the lot; 2: the buyer (of a trade the one who has them then); 3: cases; 4:"
            + " the price of a sale or a trade, for a case, what was paid back of a cut; 5: the one who had them, of a"
            + " trade", CallBoundaries::entryWhats);
        s.holds("- `months`: 0 to 120", t -> range(t, 0, 120, () -> estate(1, 0, 0), (x, v) -> x.cases(0, v)));
        s.holds("- `what`: 0: the buyer, of several the lowest; 1: how many",
            t -> range(t, 0, 1, CallBoundaries::withLoser, (x, v) -> x.loser(0, v)));
        s.holds("- `what`: 0: lots; 1: buyers; 2: the month;", CallBoundaries::countWhats);
        s.holds("- `character`: 32 to 126", t -> range(t, 32, 126, LongEstate::new, (x, v) -> x.type(v)));
        s.holds("- `what`: 0: its position; 1: its reason; 2: its cause", CallBoundaries::faultWhats);
    }

    private static void changesReturn(Sentences s) {
        s.holds("Returns its number; INVALID_ARGUMENT if an argument is out of range; LIMIT_REACHED if there are 6.",
            CallBoundaries::lotReturns);
        s.holds("NOT_POSSIBLE if it is bottled, or no barrel has 10.", CallBoundaries::tasteReturns);
        s.holds("Returns how many barrels it has then; INVALID_ARGUMENT; NOT_POSSIBLE if it is bottled, or all its"
            + " barrels but the last one have 2250.", CallBoundaries::topReturns);
        s.holds("Returns how much wine is lost in all lots; INVALID_ARGUMENT if months is out of range; LIMIT_REACHED"
            + " if the month would be above 999.", CallBoundaries::passReturns);
        s.holds("Returns how many futures are cut; INVALID_ARGUMENT; NOT_POSSIBLE if it is bottled.",
            CallBoundaries::bottleReturns);
        s.holds("Returns its number; LIMIT_REACHED if there are 6.", CallBoundaries::buyerReturns);
        s.holds("NOT_POSSIBLE if the lot is bottled, or too few cases are expected.", CallBoundaries::sellReturns);
        s.holds("Returns how many the latter holds of the lot then; INVALID_ARGUMENT if an argument is out of range, or"
            + " both are the same; NOT_POSSIBLE if the former holds fewer.", CallBoundaries::tradeReturns);
        s.holds("Returns how many cases of the lot the estate has then; INVALID_ARGUMENT if an argument is out of"
            + " range; NOT_POSSIBLE if the lot is not bottled, or the buyer holds fewer.",
            CallBoundaries::redeemReturns);
        s.holds("Returns what it was; INVALID_ARGUMENT if an argument is out of range.", CallBoundaries::setReturns);
    }

    private static void questionsReturn(Sentences s) {
        s.holds("(0 if it is bottled); 3: cases (of a bottled one those that the estate has still); 4: expected cases"
            + " (of a bottled one its cases when it was bottled)", CallBoundaries::lotOfReturns);
        s.holds("INVALID_ARGUMENT if there is no such lot or barrel is below 0; NOT_FOUND if it has not so many.",
            CallBoundaries::barrelReturns);
        s.holds("Returns the number; INVALID_ARGUMENT if an argument is out of range; NOT_FOUND for 3 without futures.",
            CallBoundaries::holdingReturns);
        s.holds("Returns the account; INVALID_ARGUMENT if there is none such.", CallBoundaries::accountReturns);
        s.holds("INVALID_ARGUMENT if index is below 0 or what is out of range; NOT_FOUND if there are not so many, for"
            + " 4 of a delivery, for 5 of all but a trade.", CallBoundaries::entryReturns);
        s.holds("Tells how many cases an open lot would have behind some months, if nothing else is done.",
            CallBoundaries::casesReturns);
        s.holds("Returns how many, 0 at least; INVALID_ARGUMENT; NOT_POSSIBLE if it is bottled.",
            CallBoundaries::sellableReturns);
        s.holds("Returns how many, 0 to 120; INVALID_ARGUMENT; NOT_POSSIBLE if it is bottled; NOT_FOUND if never in"
            + " these.", CallBoundaries::deadlineReturns);
        s.holds("Returns how many (it may be below 0); INVALID_ARGUMENT; NOT_POSSIBLE as for top().",
            CallBoundaries::toppingReturns);
        s.holds("NOT_POSSIBLE if it is bottled; NOT_FOUND if none would be cut.", CallBoundaries::loserReturns);
    }

    private static void restReturns(Sentences s) {
        s.holds("3: all accounts together; 4: wine in all open lots; 5: wine lost so far; 6: futures that are held, of"
            + " all lots; 7: cases delivered so far; 8: futures that were cut so far; 9: entries that are kept; 10:"
            + " states in the history; 11: the length of the text; 20 and 21: the settings 0 and 1",
            CallBoundaries::countReturns);
        s.holds("Returns the number of states that are left in the history; NOT_POSSIBLE if it is empty.",
            CallBoundaries::undoReturns);
        s.holds("Returns the length of the text; INVALID_ARGUMENT if character is out of range; LIMIT_REACHED if it has"
            + " 60 characters.", CallBoundaries::typeReturns);
        s.holds("Returns the length it had.", CallBoundaries::clearTextReturns);
        s.holds("Returns that; INVALID_ARGUMENT if what is out of range; NOT_FOUND if the text has no fault (also if it"
            + " is empty).", CallBoundaries::faultReturns);
        s.holds("Does all orders of the text, which stays. They are one change, also if there are none.",
            CallBoundaries::playOrders);
        s.holds("Returns how many there are in it; NOT_POSSIBLE if it has a fault.", CallBoundaries::playReturns);
    }

    /** The least and the most are let through, those next to them and the farthest ones are refused. */
    private static void range(Checks t, int least, int most, Made made, Ask ask) {
        int[] good = {least, least + 1, most - 1, most};
        for (int value : good) {
            t.that(value + " is let through", ask.answer(made.estate(), value) > INVALID);
        }
        int[] bad = {least - 1, most + 1, LEAST, MOST};
        for (int value : bad) {
            LongEstate x = made.estate();
            refused(t, x, value + " is refused", INVALID, () -> ask.answer(x, value));
        }
    }

    /** The numbers below the first one that is not there, and those outside. */
    private static void numbers(Checks t, int first, Number number) {
        for (int value = 0; value < first; value++) {
            t.that("number " + value + " is there", number.answer(value) != INVALID);
        }
        int[] bad = {-1, first, first + 1, LEAST, MOST};
        for (int value : bad) {
            t.due("number " + value, number.answer(value), INVALID);
        }
    }

    /** Six lots and six buyers; each buyer has bought 4 of lot 0 at 3, and lot 5 is bottled. */
    private static LongEstate ofSix() {
        LongEstate x = estate(1, 0, 6);
        for (int i = 1; i < 6; i++) {
            x.lot(1, 0);
        }
        for (int i = 0; i < 6; i++) {
            x.sell(0, i, 4, 3);
        }
        x.bottle(5);
        return x;
    }

    /** 35 are held of a lot that has 34 cases. */
    private static LongEstate withLoser() {
        LongEstate x = estate(2, 50, 2);
        x.sell(0, 0, 30, 20);
        x.sell(0, 1, 5, 20);
        x.pass(6);
        return x;
    }

    /** Each of the calls is answered, the 512th one too. */
    private static void calls512(Checks t) {
        WineFutures x = new WineFutures();
        x.lot(1, 0);
        for (int calls = 2; calls <= 511; calls++) {
            t.due("call " + calls, x.pass(1), 0);
        }
        t.due("call 512", x.count(2), 510);
        WineFutures changes = new WineFutures();
        changes.lot(12, 0);
        for (int calls = 2; calls <= 512; calls++) {
            t.due("tasting " + calls, changes.taste(0, 100), 110);
        }
        WineFutures states = new WineFutures();
        for (int calls = 1; calls <= 510; calls += 2) {
            t.due("change " + calls, states.set(0, calls % 100), 10);
            t.due("undo " + calls, states.undo(), 0);
        }
        t.due("change 511", states.buyer(), 0);
        t.due("undo 512", states.undo(), 0);
        WineFutures texts = new WineFutures();
        for (int calls = 1; calls <= 510; calls += 2) {
            t.due("type " + calls, texts.type('m'), 1);
            t.due("clearText " + calls, texts.clearText(), 1);
        }
        t.due("fault 511", texts.fault(0), NOT_FOUND);
        t.due("play 512", texts.play(), 0);
    }

    private static void newObject(Checks t) {
        LongEstate x = new LongEstate();
        for (int what = 0; what <= 11; what++) {
            t.due("count(" + what + ")", x.count(what), 0);
        }
        t.due("lot 0", x.lotOf(0, 0), INVALID);
        t.due("buyer 0", x.account(0), INVALID);
        t.due("the estate", x.account(-1), 0);
        t.due("entry 0", x.entry(0, 0), NOT_FOUND);
        t.dueRow("fault", faultRow(x), NOT_FOUND, NOT_FOUND, NOT_FOUND);
        t.due("undo()", x.undo(), NOT_POSSIBLE);
    }

    private static void cases1To999(Checks t) {
        int[] bad = {0, -1, 1000, LEAST, MOST};
        LongEstate x = estate(12, 0, 2);
        x.lot(1, 0);
        x.sell(1, 0, 5, 1);
        x.bottle(1);
        for (int cases : bad) {
            refused(t, x, "sell of " + cases, INVALID, () -> x.sell(0, 0, cases, 1));
            refused(t, x, "trade of " + cases, INVALID, () -> x.trade(1, 0, 1, cases, 1));
            refused(t, x, "redeem of " + cases, INVALID, () -> x.redeem(1, 0, cases));
        }
        refused(t, x, "sell of 999", NOT_POSSIBLE, () -> x.sell(0, 0, 999, 1));
        refused(t, x, "trade of 999", NOT_POSSIBLE, () -> x.trade(1, 0, 1, 999, 1));
        refused(t, x, "redeem of 999", NOT_POSSIBLE, () -> x.redeem(1, 0, 999));
        t.due("sell of 1", x.sell(0, 0, 1, 1), 1);
        t.due("trade of 1", x.trade(1, 0, 1, 1, 1), 1);
        t.due("redeem of 1", x.redeem(1, 0, 1), 24);
    }

    private static void price0To999(Checks t) {
        range(t, 0, 999, CallBoundaries::ofSix, (x, v) -> x.sell(0, 0, 1, v));
        range(t, 0, 999, CallBoundaries::ofSix, (x, v) -> x.trade(0, 0, 1, 1, v));
    }

    private static void valueInItsRange(Checks t) {
        range(t, 0, 100, LongEstate::new, (x, v) -> x.set(0, v));
        range(t, 0, 36, LongEstate::new, (x, v) -> x.set(1, v));
    }

    private static int ofLot(int call, int lot) {
        LongEstate x = ofSix();
        switch (call) {
            case 0: return x.taste(lot, 5);
            case 1: return x.top(lot);
            case 2: return x.bottle(lot);
            case 3: return x.sell(lot, 0, 1, 1);
            case 4: return x.trade(lot, 0, 1, 1, 1);
            case 5: return x.redeem(lot, 0, 1);
            case 6: return x.lotOf(lot, 0);
            case 7: return x.barrel(lot, 0);
            case 8: return x.holding(0, lot, 0);
            case 9: return x.cases(lot, 0);
            case 10: return x.sellable(lot);
            case 11: return x.deadline(lot);
            case 12: return x.topping(lot);
            default: return x.loser(lot, 0);
        }
    }

    private static void lotNumbers(Checks t) {
        for (int call = 0; call <= 13; call++) {
            int of = call;
            numbers(t, 6, lot -> ofLot(of, lot));
        }
    }

    private static void buyerNumbers(Checks t) {
        numbers(t, 6, buyer -> ofSix().sell(0, buyer, 1, 1));
        numbers(t, 6, buyer -> ofSix().redeem(5, buyer, 1));
        numbers(t, 6, buyer -> ofSix().holding(buyer, 0, 0));
    }

    private static void barrelNumbers(Checks t) {
        LongEstate x = estate(12, 0, 0);
        x.taste(0, 1);
        t.due("the first one", x.barrel(0, 0), 2240);
        for (int barrel = 1; barrel < 12; barrel++) {
            t.due("barrel " + barrel, x.barrel(0, barrel), 2250);
        }
        t.due("barrel 12", x.barrel(0, 12), NOT_FOUND);
        t.due("barrel MOST", x.barrel(0, MOST), NOT_FOUND);
        t.due("barrel -1", x.barrel(0, -1), INVALID);
        t.due("barrel LEAST", x.barrel(0, LEAST), INVALID);
    }

    private static void whose(Checks t) {
        LongEstate x = ofSix();
        t.due("the estate", x.account(-1), 72);
        for (int buyer = 0; buyer < 6; buyer++) {
            t.due("buyer " + buyer, x.account(buyer), -12);
        }
        int[] bad = {-2, 6, 7, LEAST, MOST};
        for (int number : bad) {
            t.due("account(" + number + ")", x.account(number), INVALID);
        }
    }

    private static void entryNumbers(Checks t) {
        LongEstate x = ofSix();
        for (int index = 0; index < 6; index++) {
            t.due("entry " + index, x.entry(index, 2), 5 - index);
        }
        t.due("entry 6 of 6", x.entry(6, 0), NOT_FOUND);
        for (int i = 0; i < 7; i++) {
            x.trade(0, i % 2, 1 - i % 2, 1, i);
        }
        t.due("entry 11", x.entry(11, 2), 1);
        t.due("entry 12", x.entry(12, 0), NOT_FOUND);
        t.due("entry MOST", x.entry(MOST, 0), NOT_FOUND);
        t.due("entry -1", x.entry(-1, 0), INVALID);
        t.due("entry LEAST", x.entry(LEAST, 0), INVALID);
    }

    private static void entryWhats(Checks t) {
        range(t, 0, 5, () -> {
            LongEstate x = ofSix();
            x.trade(0, 0, 1, 1, 1);
            return x;
        }, (x, v) -> x.entry(0, v));
        int[] bad = {-1, 6, LEAST, MOST};
        for (int what : bad) {
            t.due("what " + what + " of no entry", new LongEstate().entry(0, what), INVALID);
        }
    }

    private static void countWhats(Checks t) {
        range(t, 0, 11, CallBoundaries::ofSix, (x, v) -> x.count(v));
        range(t, 20, 21, CallBoundaries::ofSix, (x, v) -> x.count(v));
        LongEstate x = ofSix();
        for (int what = 12; what <= 19; what++) {
            t.due("count(" + what + ")", x.count(what), INVALID);
        }
    }

    private static void faultWhats(Checks t) {
        range(t, 0, 2, () -> {
            LongEstate x = new LongEstate();
            x.type('x');
            return x;
        }, (x, v) -> x.fault(v));
        int[] bad = {-1, 3, LEAST, MOST};
        for (int what : bad) {
            t.due("what " + what + " of no fault", new LongEstate().fault(what), INVALID);
        }
    }

    private static void lotReturns(Checks t) {
        range(t, 0, 50, () -> estate(1, 0, 0), (x, v) -> x.lot(1, v));
        LongEstate x = new LongEstate();
        for (int i = 0; i < 6; i++) {
            t.due("lot()", x.lot(12, 50), i);
        }
        refused(t, x, "a 7th one", LIMIT, () -> x.lot(12, 50));
        t.due("6 lots", x.count(0), 6);
    }

    private static void tasteReturns(Checks t) {
        LongEstate x = estate(1, 0, 0);
        t.due("the quote then", x.taste(0, 100), 110);
        t.due("the quote of both", x.taste(0, 0), 35);
        x.bottle(0);
        refused(t, x, "bottled", NOT_POSSIBLE, () -> x.taste(0, 0));
        LongEstate ten = aged(12, 48, 55);
        tasteOften(ten, 0, 23);
        t.dueRow("a barrel has 10", barrels(ten, 0), 10);
        t.due("taste of it", ten.taste(0, 50), 35);
        refused(t, ten, "no barrel is left", NOT_POSSIBLE, () -> ten.taste(0, 50));
        LongEstate nine = aged(12, 49, 54);
        tasteOften(nine, 0, 12);
        t.dueRow("each has 9", barrels(nine, 0), 9, 9, 9, 9, 9, 9, 9, 9, 9, 9, 9, 9);
        refused(t, nine, "no barrel has 10", NOT_POSSIBLE, () -> nine.taste(0, 50));
    }

    private static void topReturns(Checks t) {
        LongEstate x = estate(12, 1, 0);
        refused(t, x, "all have 2250", NOT_POSSIBLE, () -> x.top(0));
        x.taste(0, 0);
        t.due("12 barrels then", x.top(0), 12);
        t.due("the last one", x.barrel(0, 11), 2240);
        refused(t, x, "all but the last one have 2250", NOT_POSSIBLE, () -> x.top(0));
        x.pass(1);
        t.due("2 less in each", x.top(0), 12);
        t.due("out of the last one", x.barrel(0, 11), 2240 - 2 - 22);
        x.bottle(0);
        refused(t, x, "bottled", NOT_POSSIBLE, () -> x.top(0));
        t.due("one barrel then", aged(2, 13, 36).top(0), 1);
    }

    private static void passReturns(Checks t) {
        LongEstate none = new LongEstate();
        t.due("without a lot", none.pass(60), 0);
        LongEstate x = estate(12, 50, 0);
        for (int i = 1; i < 6; i++) {
            x.lot(12, 50);
        }
        t.due("of 6 lots of 12 barrels", x.pass(1), 72 * 112);
        t.due("month", x.count(2), 1);
        LongEstate late = new LongEstate();
        passMany(late, 939);
        t.due("939 and 60", late.pass(60), 0);
        t.due("999", late.count(2), 999);
        refused(t, late, "1000", LIMIT, () -> late.pass(1));
        refused(t, late, "1059", LIMIT, () -> late.pass(60));
        late.undo();
        late.pass(1);
        refused(t, late, "940 and 60", LIMIT, () -> late.pass(60));
        t.due("940 and 59", late.pass(59), 0);
        refused(t, late, "1000 again", LIMIT, () -> late.pass(1));
    }

    private static void bottleReturns(Checks t) {
        LongEstate x = withLoser();
        t.due("5 times 34 by 35, 30 times 34 by 35", x.bottle(0), 2);
        refused(t, x, "bottled", NOT_POSSIBLE, () -> x.bottle(0));
        LongEstate empty = aged(1, 48, 55);
        tasteOften(empty, 0, 2);
        t.due("without a barrel", empty.bottle(0), 0);
        t.due("no case", empty.lotOf(0, 3), 0);
        refused(t, empty, "bottled without a case", NOT_POSSIBLE, () -> empty.bottle(0));
    }

    private static void buyerReturns(Checks t) {
        LongEstate x = new LongEstate();
        for (int i = 0; i < 6; i++) {
            t.due("buyer()", x.buyer(), i);
        }
        refused(t, x, "a 7th one", LIMIT, () -> x.buyer());
        x.undo();
        t.due("the 6th one again", x.buyer(), 5);
        refused(t, x, "a 7th one again", LIMIT, () -> x.buyer());
    }

    private static void sellReturns(Checks t) {
        LongEstate x = estate(1, 0, 2);
        refused(t, x, "26 of 25", NOT_POSSIBLE, () -> x.sell(0, 0, 26, 1));
        t.due("24", x.sell(0, 0, 24, 1), 24);
        refused(t, x, "2 more", NOT_POSSIBLE, () -> x.sell(0, 1, 2, 1));
        t.due("25 then", x.sell(0, 0, 1, 1), 25);
        refused(t, x, "1 more", NOT_POSSIBLE, () -> x.sell(0, 1, 1, 1));
        x.bottle(0);
        refused(t, x, "bottled", NOT_POSSIBLE, () -> x.sell(0, 0, 1, 1));
        LongEstate free = estate(1, 0, 1);
        free.bottle(0);
        refused(t, free, "bottled, with cases that nobody has", NOT_POSSIBLE, () -> free.sell(0, 0, 1, 1));
    }

    private static void tradeReturns(Checks t) {
        LongEstate x = ofSix();
        for (int buyer = 0; buyer < 6; buyer++) {
            int same = buyer;
            refused(t, x, "both are " + buyer, INVALID, () -> x.trade(0, same, same, 1, 1));
        }
        refused(t, x, "5 of 4", NOT_POSSIBLE, () -> x.trade(0, 0, 5, 5, 1));
        t.due("4 of 4", x.trade(0, 0, 5, 4, 1), 8);
        refused(t, x, "1 of 0", NOT_POSSIBLE, () -> x.trade(0, 0, 5, 1, 1));
        t.due("8 of 8", x.trade(0, 5, 0, 8, 1), 8);
        refused(t, x, "of a bottled lot without futures", NOT_POSSIBLE, () -> x.trade(5, 0, 5, 1, 1));
    }

    private static void redeemReturns(Checks t) {
        LongEstate x = ofSix();
        refused(t, x, "4 of 4 of an open lot", NOT_POSSIBLE, () -> x.redeem(0, 0, 4));
        x.bottle(0);
        refused(t, x, "5 of 4", NOT_POSSIBLE, () -> x.redeem(0, 0, 5));
        for (int buyer = 0; buyer < 6; buyer++) {
            t.due("4 of 4", x.redeem(0, buyer, 4), 25 - 4 * (buyer + 1));
        }
        refused(t, x, "none is held, a case is there", NOT_POSSIBLE, () -> x.redeem(0, 0, 1));
        refused(t, x, "none is held of lot 5", NOT_POSSIBLE, () -> x.redeem(5, 0, 1));
    }

    private static void setReturns(Checks t) {
        LongEstate x = new LongEstate();
        int[] first = {10, 12};
        int[] most = {100, 36};
        for (int what = 0; what <= 1; what++) {
            int of = what;
            t.due("what it was", x.set(what, most[what]), first[what]);
            refused(t, x, "1 above", INVALID, () -> x.set(of, most[of] + 1));
            t.due("what it was then", x.set(what, 0), most[what]);
            refused(t, x, "1 below", INVALID, () -> x.set(of, -1));
            t.due("the least one", x.set(what, 1), 0);
        }
    }

    private static void lotOfReturns(Checks t) {
        LongEstate x = withLoser();
        int[] open = {2, 50, 3140, 34, 34, 35, 10, 0, 0, 0};
        for (int what = 0; what <= 9; what++) {
            t.due("open: " + what, x.lotOf(0, what), open[what]);
        }
        x.bottle(0);
        x.set(0, 100);
        int[] bottled = {0, 50, 0, 34, 34, 33, 10, 0, 1, 0};
        for (int what = 0; what <= 9; what++) {
            t.due("bottled: " + what, x.lotOf(0, what), bottled[what]);
        }
        x.redeem(0, 0, 29);
        x.redeem(0, 1, 4);
        int[] delivered = {0, 50, 0, 1, 34, 0, 10, 0, 1, 33};
        for (int what = 0; what <= 9; what++) {
            t.due("all delivered: " + what, x.lotOf(0, what), delivered[what]);
        }
    }

    private static void barrelReturns(Checks t) {
        LongEstate x = new LongEstate();
        t.due("no such lot", x.barrel(0, 0), INVALID);
        x.lot(1, 0);
        t.due("the only one", x.barrel(0, 0), 2250);
        t.due("1 of 1", x.barrel(0, 1), NOT_FOUND);
        t.due("below 0", x.barrel(0, -1), INVALID);
        x.bottle(0);
        t.due("0 of a bottled one", x.barrel(0, 0), NOT_FOUND);
        t.due("below 0 of a bottled one", x.barrel(0, -1), INVALID);
        t.due("the next lot", x.barrel(1, 0), INVALID);
        t.due("lot -1", x.barrel(-1, 0), INVALID);
    }

    private static void holdingReturns(Checks t) {
        LongEstate x = estate(1, 0, 2);
        t.due("without futures", x.holding(0, 0, 3), NOT_FOUND);
        t.due("futures without any", x.holding(0, 0, 0), 0);
        t.due("paid without any", x.holding(0, 0, 1), 0);
        t.due("delivered without any", x.holding(0, 0, 2), 0);
        x.sell(0, 0, 1, 0);
        t.due("one for nothing: the bits of 0", x.holding(0, 0, 3), 0);
        x.sell(0, 0, 2, 1);
        t.due("2 by 3", x.holding(0, 0, 3), Float.floatToIntBits(2f / 3f));
        x.trade(0, 0, 1, 3, 999);
        t.due("all are traded", x.holding(0, 0, 3), NOT_FOUND);
        t.due("2997 by 3", x.holding(1, 0, 3), Float.floatToIntBits(999f));
        x.bottle(0);
        x.redeem(0, 1, 3);
        t.due("all are redeemed", x.holding(1, 0, 3), NOT_FOUND);
        LongEstate cut = estate(1, 31, 1);
        cut.sell(0, 0, 1, 5);
        t.due("5 by 1", cut.holding(0, 0, 3), 0x40a00000);
        cut.pass(58);
        cut.bottle(0);
        t.due("all are cut", cut.holding(0, 0, 3), NOT_FOUND);
        manyMeans(t);
    }

    /** The mean with each kind of rest, from just below 1 up to 999. */
    private static void manyMeans(Checks t) {
        LongEstate x = estate(12, 0, 2);
        x.sell(0, 0, 300, 999);
        x.trade(0, 0, 1, 1, 999);
        int paid = 299 * 999;
        for (int i = 0; i < 60; i++) {
            x.trade(0, 1, 0, 1, 998);
            paid += 998;
            t.due("300 held", x.holding(0, 0, 3), Float.floatToIntBits((float) paid / 300f));
            x.trade(0, 0, 1, 1, 0);
            paid -= (int) ((long) paid / 300);
            t.due("299 held", x.holding(0, 0, 3), Float.floatToIntBits((float) paid / 299f));
        }
        LongEstate one = estate(12, 0, 2);
        one.sell(0, 0, 300, 0);
        one.trade(0, 0, 1, 299, 1);
        t.due("299 by 299", one.holding(1, 0, 3), 0x3f800000);
        one.trade(0, 0, 1, 1, 0);
        t.due("299 by 300", one.holding(1, 0, 3), Float.floatToIntBits(299f / 300f));
        for (int mean = 1; mean <= 512; mean += mean) {
            LongEstate halves = estate(12, 0, 1);
            halves.sell(0, 0, 1, mean);
            for (int held = 1; held <= 256; held += held) {
                t.due(mean + " by " + held, halves.holding(0, 0, 3), Float.floatToIntBits((float) mean / (float) held));
                halves.sell(0, 0, held, 0);
            }
        }
    }

    private static void accountReturns(Checks t) {
        LongEstate x = new LongEstate();
        t.due("buyer 0 of none", x.account(0), INVALID);
        x.buyer();
        t.due("buyer 0 of one", x.account(0), 0);
        t.due("buyer 1 of one", x.account(1), INVALID);
        x.undo();
        t.due("buyer 0 undone", x.account(0), INVALID);
        t.due("the estate", x.account(-1), 0);
        t.due("-2", x.account(-2), INVALID);
    }

    private static void entryReturns(Checks t) {
        LongEstate x = estate(1, 0, 2);
        t.due("0 of 0", x.entry(0, 0), NOT_FOUND);
        t.due("4 of none", x.entry(0, 4), NOT_FOUND);
        x.sell(0, 0, 25, 7);
        t.due("1 of 1", x.entry(1, 0), NOT_FOUND);
        t.due("4 of a sale", x.entry(0, 4), 7);
        t.due("5 of a sale", x.entry(0, 5), NOT_FOUND);
        x.trade(0, 0, 1, 5, 0);
        t.due("4 of a trade for nothing", x.entry(0, 4), 0);
        t.due("5 of a trade", x.entry(0, 5), 0);
        x.taste(0, 0);
        x.bottle(0);
        t.due("4 of a cut", x.entry(0, 4), 0);
        t.due("4 of a cut of 1 of 20 for 140", x.entry(1, 4), 7);
        t.due("5 of a cut", x.entry(0, 5), NOT_FOUND);
        x.redeem(0, 1, 1);
        t.due("kind", x.entry(0, 0), 3);
        t.due("4 of a delivery", x.entry(0, 4), NOT_FOUND);
        t.due("5 of a delivery", x.entry(0, 5), NOT_FOUND);
        t.due("4 of 5 entries", x.entry(4, 0), 0);
        t.due("5 of 5 entries", x.entry(5, 0), NOT_FOUND);
    }

    private static void casesReturns(Checks t) {
        LongEstate x = estate(1, 50, 0);
        t.due("now", x.cases(0, 0), 25);
        t.due("2138", x.cases(0, 1), 23);
        t.due("180 behind 27 months", x.cases(0, 27), 2);
        t.due("162 behind 28 months", x.cases(0, 28), 1);
        t.due("90 behind 34 months", x.cases(0, 34), 1);
        t.due("82 behind 35 months", x.cases(0, 35), 0);
        t.due("behind 120 months", x.cases(0, 120), 0);
        x.set(0, 100);
        x.set(1, 36);
        t.due("whatever the settings are", x.cases(0, 1), 23);
        LongEstate slow = estate(12, 1, 0);
        t.due("120 months of 2 each", slow.cases(0, 120), 12 * (2250 - 240) / 90);
        t.due("119 months of 2 each", slow.cases(0, 119), 12 * (2250 - 238) / 90);
        LongEstate late = estate(1, 50, 0);
        passMany(late, 999);
        late.lot(1, 50);
        t.due("far behind the last month", late.cases(1, 120), 0);
        t.due("a month behind the last one", late.cases(1, 1), 23);
        LongEstate empty = aged(1, 48, 55);
        tasteOften(empty, 0, 2);
        t.due("without a barrel", empty.cases(0, 120), 0);
        empty.bottle(0);
        t.due("bottled", empty.cases(0, 0), NOT_POSSIBLE);
    }

    private static void sellableReturns(Checks t) {
        LongEstate x = estate(1, 50, 1);
        t.due("25", x.sellable(0), 25);
        x.sell(0, 0, 24, 1);
        t.due("1", x.sellable(0), 1);
        x.sell(0, 0, 1, 1);
        t.due("0", x.sellable(0), 0);
        x.pass(1);
        t.due("23 less 25", x.sellable(0), 0);
        x.bottle(0);
        t.due("bottled", x.sellable(0), NOT_POSSIBLE);
        t.due("no lot 1", x.sellable(1), INVALID);
    }

    private static void deadlineReturns(Checks t) {
        LongEstate none = estate(1, 50, 1);
        t.due("no futures", none.deadline(0), NOT_FOUND);
        none.sell(0, 0, 1, 1);
        t.due("0 cases of 1 behind 35 months", none.deadline(0), 35);
        none.sell(0, 0, 24, 1);
        t.due("23 cases of 25 behind a month", none.deadline(0), 1);
        none.pass(1);
        t.due("23 cases of 25", none.deadline(0), 0);
        none.bottle(0);
        t.due("bottled", none.deadline(0), NOT_POSSIBLE);
        LongEstate far = estate(1, 1, 1);
        far.sell(0, 0, 22, 1);
        far.pass(24);
        t.due("behind 121 months", far.deadline(0), NOT_FOUND);
        t.due("cases behind 120", far.cases(0, 120), 22);
        far.pass(1);
        t.due("behind 120 months", far.deadline(0), 120);
        t.due("cases behind 120 then", far.cases(0, 120), 21);
        t.due("cases behind 119 then", far.cases(0, 119), 22);
        LongEstate empty = aged(1, 48, 55);
        tasteOften(empty, 0, 2);
        t.due("no wine, no futures", empty.deadline(0), NOT_FOUND);
        LongEstate without = estate(1, 48, 1);
        without.sell(0, 0, 1, 9);
        without.pass(55);
        tasteOften(without, 0, 2);
        t.due("no wine, but futures", without.deadline(0), 0);
        LongEstate first = new LongEstate();
        first.lot(2, 40);
        first.buyer();
        first.sell(0, 0, 20, 3);
        t.due("20 cases behind 14 months", first.cases(0, 14), 20);
        t.due("18 cases behind 15 months", first.cases(0, 15), 18);
        t.due("cases, not the expected ones", first.deadline(0), 15);
    }

    private static void toppingReturns(Checks t) {
        LongEstate x = aged(3, 50, 6);
        x.set(1, 12);
        t.due("4 more", x.topping(0), 4);
        x.set(1, 0);
        t.due("no more at once", x.topping(0), 0);
        t.dueRow("nothing is done", barrels(x, 0), 1570, 1570, 1570);
        x.set(1, 36);
        t.due("no more behind 36 months", x.topping(0), 0);
        x.set(1, 12);
        x.set(0, 100);
        t.due("cases, not the expected ones", x.topping(0), 4);
        x.top(0);
        t.due("topped up", x.topping(0), NOT_POSSIBLE);
        LongEstate below = estate(2, 50, 0);
        below.pass(2);
        tasteOften(below, 0, 23);
        below.set(1, 1);
        t.dueRow("1802 and 2032", barrels(below, 0), 1802, 2032);
        t.due("3643 to 3564: below 0", below.topping(0), -1);
        LongEstate full = estate(12, 50, 0);
        t.due("all have 2250", full.topping(0), NOT_POSSIBLE);
        full.taste(0, 0);
        t.due("one has less", full.topping(0), 0);
        full.bottle(0);
        t.due("bottled", full.topping(0), NOT_POSSIBLE);
        t.due("one barrel", aged(1, 50, 6).topping(0), NOT_POSSIBLE);
    }

    private static void loserReturns(Checks t) {
        LongEstate x = estate(1, 0, 6);
        t.due("none is held", x.loser(0, 0), NOT_FOUND);
        x.sell(0, 5, 13, 1);
        x.sell(0, 3, 12, 1);
        t.due("25 of 25", x.loser(0, 0), NOT_FOUND);
        t.due("25 of 25, how many", x.loser(0, 1), NOT_FOUND);
        x.taste(0, 1);
        t.due("25 of 24: each would lose 1, the lowest", x.loser(0, 0), 3);
        t.due("25 of 24, how many", x.loser(0, 1), 1);
        x.trade(0, 3, 0, 1, 1);
        t.due("another one is the lowest", x.loser(0, 0), 0);
        LongEstate most = withLoser();
        most.pass(1);
        t.due("30 times 31 by 35 is 26, 5 times 31 by 35 is 4", most.loser(0, 0), 0);
        t.due("how many", most.loser(0, 1), 4);
        most.trade(0, 0, 1, 25, 1);
        t.due("the other one then", most.loser(0, 0), 1);
        t.due("how many then", most.loser(0, 1), 4);
        t.due("nothing is done", most.lotOf(0, 8), 0);
        most.bottle(0);
        t.due("bottled", most.loser(0, 0), NOT_POSSIBLE);
        t.due("bottled, how many", most.loser(0, 1), NOT_POSSIBLE);
        LongEstate enough = estate(1, 50, 1);
        enough.sell(0, 0, 25, 1);
        enough.set(0, 100);
        enough.set(1, 36);
        t.due("cases now, not the expected ones", enough.loser(0, 0), NOT_FOUND);
        t.due("none is cut", enough.bottle(0), 0);
        LongEstate without = estate(1, 48, 2);
        without.sell(0, 1, 1, 9);
        without.pass(55);
        tasteOften(without, 0, 2);
        t.due("no wine: the buyer", without.loser(0, 0), 1);
        t.due("no wine: how many", without.loser(0, 1), 1);
        t.due("no wine: cut", without.bottle(0), 1);
    }

    private static void countReturns(Checks t) {
        LongEstate x = withLoser();
        int[] open = {1, 2, 6, 0, 3140, 1360, 35, 0, 0, 2, 4, 0};
        for (int what = 0; what <= 11; what++) {
            t.due("open: " + what, x.count(what), open[what]);
        }
        x.bottle(0);
        x.redeem(0, 0, 29);
        x.redeem(0, 1, 4);
        x.type('m');
        int[] bottled = {1, 2, 6, 0, 0, 1360, 0, 33, 2, 6, 4, 1};
        for (int what = 0; what <= 11; what++) {
            t.due("bottled: " + what, x.count(what), bottled[what]);
        }
        t.due("setting 0", x.count(20), 0);
        t.due("setting 1", x.count(21), 0);
        LongEstate tasted = estate(1, 0, 0);
        tasted.taste(0, 5);
        t.due("tasted wine is not lost", tasted.count(5), 0);
        tasted.bottle(0);
        t.due("nor what is below a case", tasted.count(5), 0);
        LongEstate topped = aged(2, 13, 36);
        int lost = topped.count(5);
        topped.top(0);
        t.due("nor is any by topping up", topped.count(5), lost);
        t.due("2250 of 4500", lost, 2250);
    }

    private static void undoReturns(Checks t) {
        LongEstate x = new LongEstate();
        t.due("empty", x.undo(), NOT_POSSIBLE);
        x.buyer();
        t.due("of one", x.undo(), 0);
        t.due("empty again", x.undo(), NOT_POSSIBLE);
        for (int i = 0; i < 6; i++) {
            x.buyer();
        }
        for (int left = 3; left >= 0; left--) {
            t.due("of " + (left + 1), x.undo(), left);
        }
        t.due("two of six are left", x.count(1), 2);
        t.due("none is left", x.undo(), NOT_POSSIBLE);
        t.due("two of six are left still", x.count(1), 2);
    }

    private static void typeReturns(Checks t) {
        LongEstate x = new LongEstate();
        for (int length = 1; length <= 60; length++) {
            t.due("type()", x.type(31 + length), length);
        }
        refused(t, x, "a 61st one", LIMIT, () -> x.type(32));
        refused(t, x, "a wrong 61st one", INVALID, () -> x.type(31));
        x.clearText();
        refused(t, x, "31", INVALID, () -> x.type(31));
        refused(t, x, "127", INVALID, () -> x.type(127));
        t.due("32", x.type(32), 1);
        t.due("126", x.type(126), 2);
    }

    private static void clearTextReturns(Checks t) {
        LongEstate x = new LongEstate();
        t.due("empty", x.clearText(), 0);
        x.type('m');
        t.due("one character", x.clearText(), 1);
        t.due("empty again", x.clearText(), 0);
        for (int i = 0; i < 61; i++) {
            x.type('m');
        }
        t.due("60 characters", x.clearText(), 60);
        t.due("no change", x.count(10), 0);
    }

    private static void faultReturns(Checks t) {
        LongEstate x = new LongEstate();
        t.dueRow("empty", faultRow(x), NOT_FOUND, NOT_FOUND, NOT_FOUND);
        x.type('m');
        t.dueRow("m", faultRow(x), 0, 1, 1);
        x.type('1');
        t.dueRow("m1", faultRow(x), 0, 1, 2);
        x.type(';');
        t.dueRow("m1;", faultRow(x), NOT_FOUND, NOT_FOUND, NOT_FOUND);
        x.type(';');
        t.dueRow("m1;;", faultRow(x), 3, 1, 0);
        x.clearText();
        t.dueRow("empty again", faultRow(x), NOT_FOUND, NOT_FOUND, NOT_FOUND);
        Checks.typeAll(x, "b0;");
        t.dueRow("no lot", faultRow(x), 0, 2, INVALID);
        x.lot(1, 0);
        t.dueRow("a lot has come", faultRow(x), NOT_FOUND, NOT_FOUND, NOT_FOUND);
        x.bottle(0);
        t.dueRow("it is bottled", faultRow(x), 0, 2, NOT_POSSIBLE);
        x.undo();
        t.dueRow("undone", faultRow(x), NOT_FOUND, NOT_FOUND, NOT_FOUND);
    }

    private static void playOrders(Checks t) {
        LongEstate x = new LongEstate();
        t.due("none", x.play(), 0);
        t.due("a change", x.count(10), 1);
        Checks.typeAll(x, "l1,0;");
        t.due("one", x.play(), 1);
        t.due("another change", x.count(10), 2);
        Checks.typeAll(x, "m1;m2;m3;");
        t.due("four", x.play(), 4);
        t.due("one change", x.count(10), 3);
        t.due("the text stays", x.count(11), 14);
        t.due("two lots", x.count(0), 2);
        t.due("month", x.count(2), 6);
        t.due("undo()", x.undo(), 2);
        t.due("all four are undone: lots", x.count(0), 1);
        t.due("all four are undone: month", x.count(2), 0);
        t.due("the text stays still", x.count(11), 14);
        t.due("again", x.play(), 4);
        t.due("and again", x.play(), 4);
        t.due("three lots", x.count(0), 3);
        t.due("month then", x.count(2), 12);
        asTheCalls(t);
    }

    private static void asTheCalls(Checks t) {
        LongEstate played = withLoser();
        Checks.typeAll(played, "l3,20;b0;t1,70;m9;s1,1,30,2;b1;");
        LongEstate called = withLoser();
        called.lot(3, 20);
        called.bottle(0);
        called.taste(1, 70);
        called.pass(9);
        called.sell(1, 1, 30, 2);
        called.bottle(1);
        String before = Checks.snapshot(played);
        t.due("played", played.play(), 6);
        t.that("as the calls do it", Checks.snapshot(called).equals(Checks.snapshot(played)));
        t.due("cases of lot 0", played.lotOf(0, 3), 34);
        t.due("cut", played.count(8), 2);
        played.undo();
        t.that("all are taken back", before.equals(Checks.snapshot(played)));
    }

    private static void playReturns(Checks t) {
        LongEstate x = new LongEstate();
        String text = "";
        for (int orders = 0; orders <= 20; orders++) {
            LongEstate played = typed(text);
            t.due("orders", played.play(), orders);
            t.due("month", played.count(2), orders);
            text += "m1;";
        }
        Checks.retype(x, "m1;m1;b0;");
        refused(t, x, "the last one has a fault", NOT_POSSIBLE, () -> x.play());
        Checks.retype(x, "m1;m1;m1");
        refused(t, x, "the last one has no \";\"", NOT_POSSIBLE, () -> x.play());
        Checks.retype(x, "l1,0;l1,0;l1,0;l1,0;l1,0;l1,0;l1,0;");
        refused(t, x, "a 7th lot", NOT_POSSIBLE, () -> x.play());
        Checks.retype(x, "l1,0;l1,0;l1,0;l1,0;l1,0;l1,0;");
        t.due("6 lots", x.play(), 6);
        refused(t, x, "6 more", NOT_POSSIBLE, () -> x.play());
    }
}
