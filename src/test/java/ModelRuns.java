import java.util.Random;

/** Long runs of calls with fixed seeds, each answer compared with the model's. */
public final class ModelRuns {
    private static final int RUNS = 1500;
    private static final int MOST_CALLS = 512;
    private static final int MOST_CALLS_OF_A_TEXT = 112;
    private static final int MOST_FAULTS = 10;
    private static final int[] ODD = {-1, -2, 1000, 1001, Integer.MIN_VALUE, Integer.MAX_VALUE};

    private final Random random;
    private final int style;
    private final WineFutures x = new WineFutures();
    private final EstateModel model = new EstateModel();
    private final StringBuilder calls = new StringBuilder();
    private int callCount = 0;
    private boolean wrong = false;

    private ModelRuns(int seed) {
        random = new Random(seed);
        style = seed % 4;
    }

    public static void main(String[] args) {
        int passed = 0;
        int failed = 0;
        for (int seed = 0; seed < RUNS && failed < MOST_FAULTS; seed++) {
            if (new ModelRuns(seed).run()) {
                passed++;
            } else {
                failed++;
            }
        }
        System.out.println(passed + " passed, " + failed + " failed");
        if (failed != 0) {
            System.exit(1);
        }
    }

    private boolean run() {
        begin();
        while (!wrong && callCount < MOST_CALLS) {
            int kind = random.nextInt(100);
            if (kind < 45) {
                change();
            } else if (kind < 90) {
                question();
            } else if (kind < 94) {
                same("undo()", x.undo(), model.undo());
            } else if (callCount < MOST_CALLS - MOST_CALLS_OF_A_TEXT) {
                text();
            }
        }
        return !wrong;
    }

    private void same(String call, int got, int want) {
        callCount++;
        calls.append(call).append(' ').append(got).append('\n');
        if (got != want) {
            wrong = true;
            System.out.println("after\n" + calls + call + " answered " + got + ", the model says " + want);
        }
    }

    /** Most runs begin with something to work with; without it most calls would be refused. */
    private void begin() {
        if (style == 0) {
            return;
        }
        for (int i = 0; i < 1 + random.nextInt(3); i++) {
            int barrels = 1 + random.nextInt(12);
            int rate = random.nextInt(51);
            same("lot(" + barrels + ", " + rate + ")", x.lot(barrels, rate), model.change("lot", barrels, rate));
        }
        for (int i = 0; i < 2 + random.nextInt(3); i++) {
            same("buyer()", x.buyer(), model.change("buyer"));
        }
        if (style == 1) {
            same("set(0, 0)", x.set(0, 0), model.change("set", 0, 0));
            same("set(1, 0)", x.set(1, 0), model.change("set", 1, 0));
        }
    }

    /** Mostly in the range, now and then at or behind its edges. */
    private int number(int least, int most) {
        int kind = random.nextInt(40);
        if (kind == 0) {
            return ODD[random.nextInt(ODD.length)];
        }
        if (kind == 1) {
            return random.nextBoolean() ? least - 1 : most + 1;
        }
        if (kind < 5) {
            return random.nextBoolean() ? least : most;
        }
        return least + random.nextInt(most - least + 1);
    }

    private int anyLot() {
        return number(0, Math.max(0, model.count(0) - 1));
    }

    private int anyBuyer() {
        return number(0, Math.max(0, model.count(1) - 1));
    }

    private int anyCases() {
        return random.nextInt(12) == 0 ? number(1, 999) : 1 + random.nextInt(random.nextInt(5) == 0 ? 120 : 15);
    }

    private void change() {
        switch (random.nextInt(style == 2 ? 16 : 24)) {
            case 0: changed("lot", number(1, 12), number(0, 50)); break;
            case 1: changed("buyer"); break;
            case 2: changed("pass", number(1, random.nextInt(4) == 0 ? 60 : 8)); break;
            case 3: changed("set", number(0, 1), number(0, random.nextBoolean() ? 100 : 36)); break;
            case 4: changed("bottle", random.nextInt(style == 1 ? 8 : 3) == 0 ? anyLot() : 0); break;
            case 5: case 6: changed("top", anyLot()); break;
            case 7: case 8: changed("taste", anyLot(), number(0, 100)); break;
            case 9: case 10: case 11: case 16: case 17: case 18:
                changed("sell", anyLot(), anyBuyer(), anyCases(), number(0, 999)); break;
            case 12: case 13: case 19: case 20: case 21:
                changed("trade", anyLot(), anyBuyer(), anyBuyer(), anyCases(), number(0, 999)); break;
            default: changed("redeem", anyLot(), anyBuyer(), anyCases()); break;
        }
    }

    private void changed(String call, int... a) {
        int want = model.change(call, a);
        int got;
        switch (call) {
            case "lot": got = x.lot(a[0], a[1]); break;
            case "buyer": got = x.buyer(); break;
            case "pass": got = x.pass(a[0]); break;
            case "set": got = x.set(a[0], a[1]); break;
            case "bottle": got = x.bottle(a[0]); break;
            case "top": got = x.top(a[0]); break;
            case "taste": got = x.taste(a[0], a[1]); break;
            case "sell": got = x.sell(a[0], a[1], a[2], a[3]); break;
            case "trade": got = x.trade(a[0], a[1], a[2], a[3], a[4]); break;
            default: got = x.redeem(a[0], a[1], a[2]); break;
        }
        same(call + java.util.Arrays.toString(a), got, want);
    }

    private void question() {
        int lot = anyLot();
        int buyer = anyBuyer();
        int what;
        switch (random.nextInt(14)) {
            case 0: what = number(0, 9); same("lotOf(" + lot + ", " + what + ")", x.lotOf(lot, what), model.lotOf(lot, what)); break;
            case 1: what = number(0, 11); same("barrel(" + lot + ", " + what + ")", x.barrel(lot, what), model.barrel(lot, what)); break;
            case 2: case 3: what = number(0, 3); same("holding(" + buyer + ", " + lot + ", " + what + ")",
                x.holding(buyer, lot, what), model.holding(buyer, lot, what)); break;
            case 4: what = random.nextInt(4) == 0 ? -1 : buyer; same("account(" + what + ")", x.account(what), model.account(what)); break;
            case 5: case 6: what = number(0, 5); int index = number(0, 11);
                same("entry(" + index + ", " + what + ")", x.entry(index, what), model.entry(index, what)); break;
            case 7: what = number(0, 120); same("cases(" + lot + ", " + what + ")", x.cases(lot, what), model.cases(lot, what)); break;
            case 8: same("sellable(" + lot + ")", x.sellable(lot), model.sellable(lot)); break;
            case 9: same("deadline(" + lot + ")", x.deadline(lot), model.deadline(lot)); break;
            case 10: same("topping(" + lot + ")", x.topping(lot), model.topping(lot)); break;
            case 11: what = number(0, 1); same("loser(" + lot + ", " + what + ")", x.loser(lot, what), model.loser(lot, what)); break;
            default: what = number(0, 21); same("count(" + what + ")", x.count(what), model.count(what)); break;
        }
    }

    private void text() {
        if (random.nextInt(3) == 0) {
            same("clearText()", x.clearText(), model.clearText());
        }
        int orders = random.nextInt(3);
        for (int i = 0; i < orders; i++) {
            typeAll(order());
        }
        int what = number(0, 2);
        same("fault(" + what + ")", x.fault(what), model.fault(what));
        if (random.nextBoolean()) {
            same("play()", x.play(), model.play());
        }
        if (random.nextInt(3) == 0 || model.count(11) > 50) {
            same("clearText()", x.clearText(), model.clearText());
        }
    }

    private void typeAll(String order) {
        for (int i = 0; i < order.length(); i++) {
            same("type('" + order.charAt(i) + "')", x.type(order.charAt(i)), model.type(order.charAt(i)));
        }
    }

    private String order() {
        StringBuilder order = new StringBuilder();
        switch (random.nextInt(6)) {
            case 0: order.append('l').append(number(1, 12)).append(',').append(number(0, 50)); break;
            case 1: case 2: order.append('s').append(anyLot()).append(',').append(anyBuyer()).append(',')
                .append(random.nextInt(9) + 1).append(',').append(number(0, 999)); break;
            case 3: order.append('t').append(anyLot()).append(',').append(number(0, 100)); break;
            case 4: order.append('m').append(number(1, 9)); break;
            default: order.append('b').append(anyLot()); break;
        }
        order.append(';');
        if (random.nextInt(8) == 0) {
            String signs = "0123456789,;;lstmb :/ak~";
            char sign = signs.charAt(random.nextInt(signs.length()));
            int at = random.nextInt(order.length());
            if (random.nextBoolean()) {
                order.setCharAt(at, sign);
            } else {
                order.insert(at, sign);
            }
        }
        return order.toString();
    }
}
