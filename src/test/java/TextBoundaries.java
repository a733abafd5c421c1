/** The boundaries that the document's terms name for texts, changes and errors. */
public final class TextBoundaries extends EstateTests {
    public static void main(String[] args) {
        Sentences s = new Sentences();
        s.holds("There is a text of at most 60 characters, initially empty", TextBoundaries::sixtyCharacters);
        s.holds("orders, each followed by \";\": \"l\" barrels, \",\", a rate (a lot comes), \"s\" a lot, \",\", a buyer,"
            + " \",\", cases, \",\", a price (sold), \"t\" a lot, \",\", a score (tasted), \"m\" months (they pass) or"
            + " \"b\" a lot (bottled)", TextBoundaries::forms);
        s.holds("numbers of 1 to 3 digits, 0 ahead allowed.", TextBoundaries::digits);
        s.holds("The fault of the text is the position, from 0, of the first character of the first order that is not"
            + " possible", TextBoundaries::positions);
        s.holds("its reason is 1 if it is not of this form, its \";\" included, and otherwise 2, when those ahead of it"
            + " are done", TextBoundaries::reasons);
        s.holds("its cause is with the reason 1 at which character of the order, from 0, it breaks off",
            TextBoundaries::breaksOff);
        s.holds("(of one that the text ends too early it is its length)", TextBoundaries::endsTooEarly);
        s.holds("and with the reason 2 the error code that the call returns for it.", TextBoundaries::errorCodes);
        s.holds("The changes are the calls of lot, buyer, taste, top, pass, sell, trade, bottle, redeem, set and play"
            + " that return no error.", TextBoundaries::whatIsAChange);
        s.holds("A history of at most 4 states is kept .. and if there are 5 states then, the oldest one is dropped.",
            TextBoundaries::fourStates);
        s.holds("each change records everything before it but the text", TextBoundaries::everythingButTheText);
        s.holds("If several errors apply to a call, INVALID_ARGUMENT is returned rather than NOT_POSSIBLE, NOT_POSSIBLE"
            + " rather than LIMIT_REACHED, and LIMIT_REACHED rather than NOT_FOUND.", TextBoundaries::severalErrors);
        s.holds("A call that returns an error changes nothing.", TextBoundaries::errorsChangeNothing);
        s.holds("If there is no lot or buyer with a certain number, this is INVALID_ARGUMENT.",
            TextBoundaries::noSuchNumber);
        s.end();
    }

    private static void sixtyCharacters(Checks t) {
        LongEstate x = new LongEstate();
        t.due("initially", x.count(11), 0);
        t.due("no fault", x.fault(0), NOT_FOUND);
        Checks.typeAll(x, "m1;m1;m1;m1;m1;m1;m1;m1;m1;m1;m1;m1;m1;m1;m1;m1;m1;m1;m1;m");
        t.due("58 characters", x.count(11), 58);
        t.due("the 59th", x.type('1'), 59);
        t.due("the 60th", x.type(';'), 60);
        refused(t, x, "the 61st", LIMIT, () -> x.type('m'));
        t.due("20 orders", x.play(), 20);
        t.due("60 characters stay", x.clearText(), 60);
        t.due("empty again", x.count(11), 0);
        t.due("the first one again", x.type('m'), 1);
        t.due("nothing of the old text", x.fault(2), 1);
    }

    private static void forms(Checks t) {
        LongEstate x = estate(2, 0, 1);
        Checks.typeAll(x, "l3,7;s1,0,4,25;t1,90;m2;b0;");
        t.due("no fault", x.fault(0), NOT_FOUND);
        t.due("5 orders", x.play(), 5);
        t.due("lots", x.count(0), 2);
        t.due("rate", x.lotOf(1, 1), 7);
        t.dueRow("sold", entryRow(x, 0), 0, 1, 0, 4, 25, NOT_FOUND);
        t.due("tasted", x.lotOf(1, 6), 91);
        t.dueRow("two months", barrels(x, 1), 2210, 2220, 2220);
        t.due("month", x.count(2), 2);
        t.due("bottled", x.lotOf(0, 8), 1);
        String[] wrong = {"L1,1;", "a0;", "B0;", " b0;", "l1;1;", "l1,1,", "l1,1,1;", "b0,0;", "m1,1;", "t0;", "s0,0,1;",
            "s0,0,1,1,1;", "m+1;", "m-1;", "m 1;", "m1 ;", "m1.", "m;", "l,1;", "l1,;"};
        for (String text : wrong) {
            Checks.retype(x, text);
            t.due("reason of " + text, x.fault(1), 1);
            refused(t, x, "play of " + text, NOT_POSSIBLE, () -> x.play());
        }
        t.due("no other character", othersAreOrders(), 0);
    }

    /** How many characters begin an order with one number, but for m and b. */
    private static int othersAreOrders() {
        int found = 0;
        for (int sign = 32; sign <= 126; sign++) {
            LongEstate x = new LongEstate();
            x.type(sign);
            Checks.typeAll(x, "1;");
            boolean known = sign == 'm' || sign == 'b';
            boolean brokenAhead = x.fault(1) == 1 && x.fault(2) == 0;
            boolean brokenBehind = x.fault(1) == 1 && x.fault(2) == 2;
            boolean wantsMore = sign == 'l' || sign == 's' || sign == 't';
            found += known || (wantsMore ? brokenBehind : brokenAhead) ? 0 : 1;
        }
        return found;
    }

    private static void digits(Checks t) {
        LongEstate x = new LongEstate();
        String[] texts = {"m1;", "m01;", "m001;", "m60;", "m060;", "l12,50;", "l012,050;", "l001,000;", "l1,0;"};
        for (String text : texts) {
            Checks.retype(x, text);
            t.due("play of " + text, x.play(), 1);
        }
        t.due("months", x.count(2), 1 + 1 + 1 + 60 + 60);
        t.due("barrels of 012", x.lotOf(1, 0), 12);
        t.due("rate of 050", x.lotOf(1, 1), 50);
        t.due("barrels of 001", x.lotOf(2, 0), 1);
        t.due("rate of 000", x.lotOf(2, 1), 0);
        String[] wrong = {"m;", "m0001;", "m0060;", "l0001,1;", "l1,0001;", "l,1;", "l1,;"};
        int[] causes = {1, 4, 4, 4, 6, 1, 3};
        for (int i = 0; i < wrong.length; i++) {
            Checks.retype(x, wrong[i]);
            t.dueRow("fault of " + wrong[i], faultRow(x), 0, 1, causes[i]);
        }
        Checks.retype(x, "m999;");
        t.dueRow("999 is a number, but no months", faultRow(x), 0, 2, INVALID);
        Checks.retype(x, "m000;");
        t.dueRow("000 is a number, but no months", faultRow(x), 0, 2, INVALID);
        LongEstate dear = estate(1, 0, 1);
        Checks.typeAll(dear, "s000,000,025,999;");
        t.due("a price of 999", dear.play(), 1);
        t.due("25 times 999", dear.account(0), -24975);
    }

    private static void positions(Checks t) {
        LongEstate x = new LongEstate();
        String ahead = "";
        for (int orders = 0; orders < 20; orders++) {
            t.dueRow("behind " + orders + " orders", faultRow(typed(ahead + "b0;")), 3 * orders, 2, INVALID);
            ahead += "m1;";
        }
        Checks.retype(x, "m1;m1;m1;m1;m1;m1;m1;m1;m1;m1;m1;m1;m1;m1;m1;m1;m1;m01;m01;x");
        t.due("60 characters", x.count(11), 60);
        t.dueRow("at the last character", faultRow(x), 59, 1, 0);
        Checks.retype(x, "x;b0;y");
        t.dueRow("the first of several", faultRow(x), 0, 1, 0);
        Checks.retype(x, "m1;b0;b1;x");
        t.dueRow("the first of several of both reasons", faultRow(x), 3, 2, INVALID);
        Checks.retype(x, "m1;;b0;");
        t.dueRow("an order without a character", faultRow(x), 3, 1, 0);
        Checks.retype(x, "m1; ");
        t.dueRow("a space behind the last one", faultRow(x), 3, 1, 0);
    }

    private static void reasons(Checks t) {
        LongEstate x = estate(1, 0, 1);
        Checks.typeAll(x, "b1");
        t.dueRow("without its \";\"", faultRow(x), 0, 1, 2);
        x.type(';');
        t.dueRow("with its \";\"", faultRow(x), 0, 2, INVALID);
        Checks.retype(x, "l2,0;b1;");
        t.due("the lot of an order ahead", x.fault(1), NOT_FOUND);
        Checks.retype(x, "l2,0;b2;");
        t.dueRow("one lot too few", faultRow(x), 5, 2, INVALID);
        Checks.retype(x, "b0;s0,0,1,1;");
        t.dueRow("bottled ahead", faultRow(x), 3, 2, NOT_POSSIBLE);
        Checks.retype(x, "s0,0,25,1;");
        t.due("25 of 25", x.fault(1), NOT_FOUND);
        Checks.retype(x, "s0,0,25,1;s0,0,1,1;");
        t.dueRow("26 of 25", faultRow(x), 10, 2, NOT_POSSIBLE);
        Checks.retype(x, "t0,5;s0,0,25,1;");
        t.dueRow("25 of 24 behind a tasting", faultRow(x), 5, 2, NOT_POSSIBLE);
        t.due("nothing is done", x.lotOf(0, 2), 2250);
        t.due("nothing is sold", x.count(6), 0);
    }

    private static void breaksOff(Checks t) {
        String[] orders = {"l1,2;", "l111,222;", "s1,2,3,4;", "s111,222,333,444;", "t1,2;", "t111,222;", "m1;", "m111;",
            "b1;", "b111;"};
        for (String order : orders) {
            for (int at = 0; at < order.length(); at++) {
                String broken = order.substring(0, at) + "~" + order.substring(at + 1);
                t.dueRow(broken, faultRow(typed(broken)), 0, 1, at);
                t.dueRow("m1;" + broken + "m1;", faultRow(typed("m1;" + broken + "m1;")), 3, 1, at);
            }
        }
        String[] fourDigits = {"l1111,2;", "l1,2222;", "s1111,2,3,4;", "s1,2222,3,4;", "s1,2,3333,4;", "s1,2,3,4444;",
            "t1111,2;", "t1,2222;", "m1111;", "b1111;"};
        int[] fourth = {4, 6, 4, 6, 8, 10, 4, 6, 4, 4};
        for (int i = 0; i < fourDigits.length; i++) {
            t.dueRow(fourDigits[i], faultRow(typed(fourDigits[i])), 0, 1, fourth[i]);
        }
        everySign(t);
    }

    /** Of all signs the digits, "," and ";" alone go on, each where it may stand. */
    private static void everySign(Checks t) {
        for (char sign = 32; sign <= 126; sign++) {
            boolean digit = sign >= '0' && sign <= '9';
            t.dueRow("m" + sign, faultRow(typed("m" + sign)), 0, 1, digit ? 2 : 1);
            t.dueRow("l1" + sign, faultRow(typed("l1" + sign)), 0, 1, digit || sign == ',' ? 3 : 2);
            if (sign == ';') {
                t.due("m1;", typed("m1;").fault(0), NOT_FOUND);
            } else {
                t.dueRow("m1" + sign, faultRow(typed("m1" + sign)), 0, 1, digit ? 3 : 2);
            }
        }
    }

    private static void endsTooEarly(Checks t) {
        String[] orders = {"l1,2;", "l111,222;", "s1,2,3,4;", "s111,222,333,444;", "t1,2;", "t111,222;", "m1;", "m111;",
            "b1;", "b111;"};
        for (String order : orders) {
            for (int length = 1; length < order.length(); length++) {
                String part = order.substring(0, length);
                t.dueRow(part, faultRow(typed(part)), 0, 1, length);
                t.dueRow("m1;" + part, faultRow(typed("m1;" + part)), 3, 1, length);
            }
        }
        LongEstate x = typed("m1;m1;m1;m1;m1;m1;m1;m1;m1;m1;m1;m1;m1;m1;m1;m1;m1;m1;m01;m1");
        t.due("60 characters", x.count(11), 60);
        t.dueRow("where no character has room", faultRow(x), 58, 1, 2);
        refused(t, x, "its \";\"", LIMIT, () -> x.type(';'));
    }

    private static void errorCodes(Checks t) {
        String[] texts = {"l0,0;", "l13,0;", "l1,51;", "t1,0;", "t0,101;", "m0;", "m61;", "b1;", "s1,0,1,1;",
            "s0,1,1,1;", "s0,0,0,1;"};
        for (String text : texts) {
            LongEstate x = estate(1, 0, 1);
            Checks.typeAll(x, text);
            t.dueRow(text, faultRow(x), 0, 2, INVALID);
        }
        String[] possible = {"l1,0;", "l12,50;", "t0,0;", "t0,100;", "m1;", "m60;", "b0;", "s0,0,1,0;", "s0,0,25,999;"};
        for (String text : possible) {
            LongEstate x = estate(1, 0, 1);
            Checks.typeAll(x, text);
            t.dueRow(text, faultRow(x), NOT_FOUND, NOT_FOUND, NOT_FOUND);
            t.due("play of " + text, x.play(), 1);
        }
        LongEstate x = estate(1, 0, 1);
        Checks.typeAll(x, "s0,0,26,1;");
        t.dueRow("too few are expected", faultRow(x), 0, 2, NOT_POSSIBLE);
        Checks.retype(x, "b0;t0,5;");
        t.dueRow("tasted when it is bottled", faultRow(x), 3, 2, NOT_POSSIBLE);
        Checks.retype(x, "b0;b0;");
        t.dueRow("bottled twice", faultRow(x), 3, 2, NOT_POSSIBLE);
        Checks.retype(x, "b0;t0,101;");
        t.dueRow("both wrong", faultRow(x), 3, 2, INVALID);
        Checks.retype(x, "l1,0;l1,0;l1,0;l1,0;l1,0;");
        t.due("6 lots", x.fault(0), NOT_FOUND);
        Checks.retype(x, "l1,0;l1,0;l1,0;l1,0;l1,0;l1,0;");
        t.dueRow("7 lots", faultRow(x), 25, 2, LIMIT);
        LongEstate late = new LongEstate();
        passMany(late, 939);
        Checks.typeAll(late, "m60;");
        t.due("month 999", late.fault(0), NOT_FOUND);
        Checks.typeAll(late, "m1;");
        t.dueRow("month 1000", faultRow(late), 4, 2, LIMIT);
    }

    /** A call of each kind in an estate in which it is possible: the first ones are changes. */
    private static int answer(LongEstate x, int call) {
        switch (call) {
            case 0: return x.lot(1, 0);
            case 1: return x.buyer();
            case 2: return x.taste(0, 5);
            case 3: return x.top(0);
            case 4: return x.pass(1);
            case 5: return x.sell(0, 0, 1, 1);
            case 6: return x.trade(0, 0, 1, 1, 1);
            case 7: return x.bottle(0);
            case 8: return x.redeem(1, 0, 1);
            case 9: return x.set(0, 0);
            case 10: return x.play();
            case 11: return x.type('m');
            case 12: return x.clearText();
            case 13: return x.lotOf(0, 4);
            case 14: return x.barrel(0, 0);
            case 15: return x.holding(0, 0, 3);
            case 16: return x.account(-1) + 10;
            case 17: return x.entry(0, 0);
            case 18: return x.cases(0, 120);
            case 19: return x.sellable(0);
            case 20: return x.deadline(0);
            case 21: return x.topping(0) + 90;
            case 22: return x.loser(0, 1);
            case 23: return x.count(10);
            default: return x.undo();
        }
    }

    /** Lot 0 is open, can be topped up and has 64 cases; lot 1 is bottled; the history is empty. */
    private static LongEstate middleOfAll(int sold) {
        LongEstate x = estate(3, 50, 2);
        x.lot(1, 0);
        x.sell(1, 0, 5, 1);
        x.bottle(1);
        x.sell(0, 0, sold, 3);
        x.pass(3);
        forget(x);
        return x;
    }

    /** Changes that alter nothing drop the states ahead of them, and are undone. */
    private static void forget(LongEstate x) {
        for (int i = 0; i < 4; i++) {
            x.set(0, x.count(20));
        }
        for (int i = 0; i < 4; i++) {
            x.undo();
        }
    }

    private static void whatIsAChange(Checks t) {
        LongEstate all = middleOfAll(10);
        for (int call = 0; call <= 10; call++) {
            LongEstate x = middleOfAll(10);
            t.due("no state ahead of change " + call, x.count(10), 0);
            t.that("change " + call + " is possible", answer(x, call) >= 0);
            t.due("a state behind change " + call, x.count(10), 1);
        }
        LongEstate x = middleOfAll(67);
        x.pass(1);
        for (int call = 11; call <= 23; call++) {
            t.that("call " + call + " is possible", answer(x, call) >= 0);
            t.due("states behind call " + call, x.count(10), 1);
        }
        t.due("undo()", x.undo(), 0);
        t.due("it is no change", x.count(10), 0);
        t.due("a change that alters nothing", x.set(0, x.count(20)), 0);
        t.due("is one", x.count(10), 1);
        LongEstate empty = new LongEstate();
        t.due("play() of no order", empty.play(), 0);
        t.due("is a change", empty.count(10), 1);
        t.due("the change of another object is not", all.count(10), 0);
    }

    private static void fourStates(Checks t) {
        LongEstate x = new LongEstate();
        t.due("none at first", x.count(10), 0);
        refused(t, x, "undo() of none", NOT_POSSIBLE, () -> x.undo());
        for (int change = 1; change <= 7; change++) {
            x.pass(change);
            t.due("states behind " + change, x.count(10), Math.min(4, change));
        }
        t.due("month", x.count(2), 28);
        int[] months = {21, 15, 10, 6};
        for (int i = 0; i < 4; i++) {
            t.due("undo()", x.undo(), 3 - i);
            t.due("month behind undo() " + i, x.count(2), months[i]);
        }
        refused(t, x, "a 5th undo()", NOT_POSSIBLE, () -> x.undo());
        for (int change = 1; change <= 3; change++) {
            x.pass(1);
        }
        t.due("3 states", x.undo(), 2);
        x.pass(10);
        x.pass(20);
        x.pass(30);
        t.due("4 of 5", x.count(10), 4);
        int[] then = {38, 18, 8, 7};
        for (int i = 0; i < 4; i++) {
            x.undo();
            t.due("month then, behind undo() " + i, x.count(2), then[i]);
        }
        t.due("none is left", x.undo(), NOT_POSSIBLE);
    }

    private static void everythingButTheText(Checks t) {
        for (int call = 0; call <= 10; call++) {
            LongEstate x = middleOfAll(10);
            x.set(0, 3);
            Checks.typeAll(x, call == 10 ? "l1,1;t0,9;m1;s0,1,2,8;b0;" : "");
            String before = Checks.snapshot(x);
            t.that("change " + call + " is possible", answer(x, call) >= 0);
            t.that("change " + call + " changes something", !before.equals(Checks.snapshot(x)));
            Checks.retype(x, "m9");
            t.due("undo() of change " + call, x.undo(), 1);
            t.that("change " + call + " is taken back", before.equals(Checks.snapshot(x)));
            t.due("the text is not", x.count(11), 2);
            t.dueRow("nor its characters", faultRow(x), 0, 1, 2);
        }
        LongEstate x = new LongEstate();
        Checks.typeAll(x, "m1;");
        x.pass(1);
        x.clearText();
        x.undo();
        t.due("the text stays empty", x.count(11), 0);
        settingsAndCuts(t);
    }

    private static void settingsAndCuts(Checks t) {
        LongEstate x = new LongEstate();
        x.set(0, 77);
        x.set(1, 33);
        t.dueRow("both settings", new int[] {x.count(20), x.count(21)}, 77, 33);
        x.undo();
        t.dueRow("setting 1 is taken back", new int[] {x.count(20), x.count(21)}, 77, 12);
        x.undo();
        t.dueRow("setting 0 is taken back", new int[] {x.count(20), x.count(21)}, 10, 12);
        LongEstate more = middleOfAll(67);
        String before = Checks.snapshot(more);
        t.due("of 67 for 64 cases", more.bottle(0), 3);
        t.due("cut so far", more.count(8), 3);
        String after = Checks.snapshot(more);
        more.redeem(0, 0, 60);
        more.undo();
        t.that("the delivery is taken back", after.equals(Checks.snapshot(more)));
        more.undo();
        t.due("none is cut", more.count(8), 0);
        t.that("the cut is taken back", before.equals(Checks.snapshot(more)));
        t.due("cut again", more.bottle(0), 3);
        t.that("as before", after.equals(Checks.snapshot(more)));
    }

    private static void severalErrors(Checks t) {
        LongEstate x = middleOfAll(67);
        for (int i = 2; i < 6; i++) {
            x.lot(1, 0);
            x.buyer();
        }
        refused(t, x, "lot: range, 6 lots", INVALID, () -> x.lot(0, 0));
        refused(t, x, "lot: rate, 6 lots", INVALID, () -> x.lot(1, 51));
        refused(t, x, "taste: score, bottled", INVALID, () -> x.taste(1, 101));
        refused(t, x, "bottle: no lot", INVALID, () -> x.bottle(6));
        refused(t, x, "sell: cases, bottled", INVALID, () -> x.sell(1, 0, 0, 1));
        refused(t, x, "sell: 1000 cases, too few expected", INVALID, () -> x.sell(0, 0, 1000, 1));
        refused(t, x, "sell: price, bottled", INVALID, () -> x.sell(1, 0, 1, 1000));
        refused(t, x, "sell: no buyer, bottled", INVALID, () -> x.sell(1, 6, 1, 1));
        refused(t, x, "trade: the same, who holds fewer", INVALID, () -> x.trade(0, 1, 1, 1, 1));
        refused(t, x, "trade: 1000 cases, holds fewer", INVALID, () -> x.trade(0, 0, 1, 1000, 1));
        refused(t, x, "trade: price, holds fewer", INVALID, () -> x.trade(0, 1, 0, 1, -1));
        refused(t, x, "trade: no buyer to, holds fewer", INVALID, () -> x.trade(0, 1, 6, 1, 1));
        refused(t, x, "redeem: cases, open", INVALID, () -> x.redeem(0, 0, 0));
        refused(t, x, "redeem: 1000 cases, holds fewer", INVALID, () -> x.redeem(1, 0, 1000));
        refused(t, x, "redeem: no buyer, open", INVALID, () -> x.redeem(0, 6, 1));
        refused(t, x, "cases: months, bottled", INVALID, () -> x.cases(1, 121));
        refused(t, x, "loser: what, bottled", INVALID, () -> x.loser(1, 2));
        refused(t, x, "loser: bottled, none would be cut", NOT_POSSIBLE, () -> x.loser(1, 0));
        refused(t, x, "loser: what, none would be cut", INVALID, () -> x.loser(2, 2));
        refused(t, x, "deadline: bottled, never", NOT_POSSIBLE, () -> x.deadline(1));
        refused(t, x, "holding: what, without futures", INVALID, () -> x.holding(5, 0, 4));
        refused(t, x, "holding: no lot, without futures", INVALID, () -> x.holding(5, 6, 3));
        refused(t, x, "entry: what, not so many", INVALID, () -> x.entry(12, 6));
        refused(t, x, "entry: index, what", INVALID, () -> x.entry(-1, 5));
        refused(t, x, "barrel: below 0, bottled", INVALID, () -> x.barrel(1, -1));
        refused(t, x, "barrel: no lot, not so many", INVALID, () -> x.barrel(6, 12));
        refused(t, x, "fault: what, no fault", INVALID, () -> x.fault(3));
        LongEstate late = new LongEstate();
        passMany(late, 999);
        refused(t, late, "pass: range, month", INVALID, () -> late.pass(61));
        refused(t, late, "pass: 0, month", INVALID, () -> late.pass(0));
        refused(t, late, "pass: month", LIMIT, () -> late.pass(60));
        for (int i = 0; i < 60; i++) {
            late.type(' ');
        }
        refused(t, late, "type: character, 60 of them", INVALID, () -> late.type(127));
        refused(t, late, "type: 60 of them", LIMIT, () -> late.type(126));
    }

    /** Each kind of error in a row; then the states of the history must be those that they were. */
    private static void errorsChangeNothing(Checks t) {
        LongEstate x = estate(3, 50, 6);
        for (int i = 1; i < 6; i++) {
            x.lot(1, 0);
        }
        x.sell(0, 0, 70, 3);
        String[] states = new String[5];
        states[0] = Checks.snapshot(x);
        x.sell(1, 1, 5, 4);
        states[1] = Checks.snapshot(x);
        x.bottle(1);
        states[2] = Checks.snapshot(x);
        x.pass(3);
        states[3] = Checks.snapshot(x);
        x.redeem(1, 1, 2);
        states[4] = Checks.snapshot(x);
        Checks.typeAll(x, "m1;b0;b1;");
        Call[] calls = {() -> x.lot(1, 0), () -> x.lot(13, 0), () -> x.buyer(), () -> x.taste(1, 5),
            () -> x.taste(0, 101), () -> x.top(1), () -> x.top(6), () -> x.pass(0), () -> x.pass(61),
            () -> x.sell(0, 0, 1, 1), () -> x.sell(0, 0, 0, 1), () -> x.sell(1, 0, 1, 1), () -> x.trade(0, 1, 0, 1, 1),
            () -> x.trade(0, 0, 0, 1, 1), () -> x.bottle(1), () -> x.bottle(-1), () -> x.redeem(0, 0, 1),
            () -> x.redeem(1, 1, 4), () -> x.set(2, 0), () -> x.set(0, 101), () -> x.set(1, 37), () -> x.play(),
            () -> x.type(31), () -> x.lotOf(0, 10), () -> x.barrel(0, 3), () -> x.holding(5, 0, 3),
            () -> x.account(6), () -> x.entry(12, 0), () -> x.cases(1, 0), () -> x.sellable(1), () -> x.deadline(1),
            () -> x.topping(1), () -> x.loser(1, 0), () -> x.count(12), () -> x.fault(3)};
        for (int round = 0; round < 3; round++) {
            for (int i = 0; i < calls.length; i++) {
                int answer = calls[i].answer();
                t.that("call " + i + " is an error", answer <= INVALID && answer >= NOT_FOUND);
                t.that("call " + i + " changes nothing", states[4].equals(Checks.snapshot(x)));
            }
        }
        t.dueRow("the text's fault", faultRow(x), 6, 2, NOT_POSSIBLE);
        t.due("4 states", x.count(10), 4);
        for (int left = 3; left >= 0; left--) {
            t.due("undo()", x.undo(), left);
            t.that("state " + left, states[left].equals(Checks.snapshot(x)));
            t.due("an error between", x.lot(0, 0), INVALID);
        }
        refused(t, x, "undo() of none", NOT_POSSIBLE, () -> x.undo());
    }

    private static int ofLot(LongEstate x, int call, int lot) {
        switch (call) {
            case 0: return x.taste(lot, 5);
            case 1: return x.top(lot);
            case 2: return x.bottle(lot);
            case 3: return x.sell(lot, 0, 1, 1);
            case 4: return x.trade(lot, 0, 1, 1, 1);
            case 5: return x.redeem(lot, 0, 1);
            case 6: return x.lotOf(lot, 0);
            case 7: return x.barrel(lot, 0);
            case 8: return x.holding(0, lot, 0);
            case 9: return x.cases(lot, 0);
            case 10: return x.sellable(lot);
            case 11: return x.deadline(lot);
            case 12: return x.topping(lot);
            default: return x.loser(lot, 0);
        }
    }

    private static int ofBuyer(LongEstate x, int call, int buyer) {
        switch (call) {
            case 0: return x.sell(0, buyer, 1, 1);
            case 1: return x.trade(0, buyer, 0, 1, 1);
            case 2: return x.trade(0, 0, buyer, 1, 1);
            case 3: return x.redeem(1, buyer, 1);
            case 4: return x.holding(buyer, 0, 0);
            case 5: return x.holding(buyer, 0, 3);
            default: return x.account(buyer == -1 ? -2 : buyer);
        }
    }

    private static void noSuchNumber(Checks t) {
        LongEstate none = new LongEstate();
        LongEstate some = middleOfAll(10);
        LongEstate undone = estate(1, 0, 2);
        undone.lot(1, 0);
        undone.undo();
        int[] numbers = {-1, 2, 5, 6, 7, MOST, LEAST};
        for (int number : numbers) {
            for (int call = 0; call <= 13; call++) {
                int of = call;
                refused(t, some, "lot " + number + ", call " + call, INVALID, () -> ofLot(some, of, number));
                t.due("lot " + number + " of no lot, call " + call, ofLot(none, call, number), INVALID);
            }
            for (int call = 0; call <= 6; call++) {
                int of = call;
                refused(t, some, "buyer " + number + ", call " + call, INVALID, () -> ofBuyer(some, of, number));
                t.due("buyer " + number + " of no buyer, call " + call, ofBuyer(none, call, number), INVALID);
            }
        }
        for (int call = 0; call <= 13; call++) {
            t.due("lot 0 of no lot, call " + call, ofLot(none, call, 0), INVALID);
            t.due("lot 1 that is undone, call " + call, ofLot(undone, call, 1), INVALID);
        }
        t.that("lot 1 is there", some.lotOf(1, 8) == 1);
        t.that("buyer 1 is there", some.account(1) == 0);
    }
}
