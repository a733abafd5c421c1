import java.util.ArrayList;
import java.util.Arrays;
import java.util.List;
import java.util.regex.Matcher;
import java.util.regex.Pattern;

/**
 * The document told a second time, with the Java library and copies of whole states, without regard to
 * what it costs; made to be unlike the program, so that both hardly have the same mistake.
 */
final class EstateModel {
    static final int INVALID = -2000000001;
    static final int NOT_POSSIBLE = -2000000002;
    static final int LIMIT = -2000000003;
    static final int NOT_FOUND = -2000000004;

    private static final Pattern ORDER = Pattern.compile(
        "(?:([lt])(\\d{1,3}),(\\d{1,3})|(s)(\\d{1,3}),(\\d{1,3}),(\\d{1,3}),(\\d{1,3})|([mb])(\\d{1,3}));");

    private static final class ModelLot {
        List<Integer> wine = new ArrayList<>();
        int rate;
        List<Integer> scores = new ArrayList<>();
        int casesWhenBottled = -1;
        long[][] of = new long[6][3];

        ModelLot copy() {
            ModelLot other = new ModelLot();
            other.wine = new ArrayList<>(wine);
            other.rate = rate;
            other.scores = new ArrayList<>(scores);
            other.casesWhenBottled = casesWhenBottled;
            for (int i = 0; i < 6; i++) {
                other.of[i] = of[i].clone();
            }
            return other;
        }

        boolean bottled() {
            return casesWhenBottled >= 0;
        }

        int all(int what) {
            return (int) Arrays.stream(of).mapToLong(row -> row[what]).sum();
        }

        int litres() {
            return wine.stream().mapToInt(Integer::intValue).sum();
        }

        int month() {
            int before = litres();
            wine.replaceAll(w -> w - (w < 1800 ? 2 : 1) * (w * rate / 1000));
            wine.removeIf(w -> w == 0);
            return before - litres();
        }

        int casesAfter(int months) {
            ModelLot later = copy();
            for (int i = 0; i < months; i++) {
                later.month();
            }
            return later.litres() / 90;
        }

        boolean toppable() {
            return wine.size() > 1 && wine.subList(0, wine.size() - 1).stream().anyMatch(w -> w < 2250);
        }

        /** A tenth of a litre at a time. */
        void topUp() {
            while (toppable()) {
                int first = 0;
                while (wine.get(first) >= 2250) {
                    first++;
                }
                int last = wine.size() - 1;
                wine.set(first, wine.get(first) + 1);
                wine.set(last, wine.get(last) - 1);
                if (wine.get(last) == 0) {
                    wine.remove(last);
                }
            }
        }

        int quote() {
            if (scores.isEmpty()) {
                return 10;
            }
            int mean = scores.stream().mapToInt(Integer::intValue).sum() / scores.size();
            return 10 + mean * mean / 100;
        }

        /** Those that a buyer would hold if there were only so many cases. */
        long after(int buyer, long cases) {
            long all = all(0);
            return all <= cases ? of[buyer][0] : of[buyer][0] * cases / all;
        }
    }

    private List<ModelLot> lots = new ArrayList<>();
    private List<Long> accounts = new ArrayList<>();
    private long estate;
    private int[] settings = {10, 12};
    private int month;
    private int lost;
    private int cut;
    private List<int[]> book = new ArrayList<>();
    private List<EstateModel> history = new ArrayList<>();
    private String text = "";

    /** A copy of the state, without the history and the text. */
    private EstateModel copy() {
        EstateModel other = new EstateModel();
        other.take(this);
        return other;
    }

    private void take(EstateModel other) {
        lots = new ArrayList<>();
        for (ModelLot lot : other.lots) {
            lots.add(lot.copy());
        }
        accounts = new ArrayList<>(other.accounts);
        estate = other.estate;
        settings = other.settings.clone();
        month = other.month;
        lost = other.lost;
        cut = other.cut;
        book = new ArrayList<>(other.book);
    }

    private boolean noLot(int lot) {
        return lot < 0 || lot >= lots.size();
    }

    private boolean noBuyer(int buyer) {
        return buyer < 0 || buyer >= accounts.size();
    }

    private static boolean out(int value, int least, int most) {
        return value < least || value > most;
    }

    /** The error of a change, or 0. */
    private int error(String call, int[] a) {
        boolean invalid;
        boolean impossible = false;
        boolean limit = false;
        ModelLot lot = a.length > 0 && !noLot(a[0]) ? lots.get(a[0]) : null;
        switch (call) {
            case "lot":
                invalid = out(a[0], 1, 12) || out(a[1], 0, 50);
                limit = lots.size() >= 6;
                break;
            case "taste":
                invalid = lot == null || out(a[1], 0, 100);
                impossible = lot != null && (lot.bottled() || lot.wine.stream().allMatch(w -> w < 10));
                break;
            case "top":
                invalid = lot == null;
                impossible = lot != null && (lot.bottled() || !lot.toppable());
                break;
            case "pass":
                invalid = out(a[0], 1, 60);
                limit = (long) month + a[0] > 999;
                break;
            case "bottle":
                invalid = lot == null;
                impossible = lot != null && lot.bottled();
                break;
            case "buyer":
                invalid = false;
                limit = accounts.size() >= 6;
                break;
            case "sell":
                invalid = lot == null || noBuyer(a[1]) || out(a[2], 1, 999) || out(a[3], 0, 999);
                impossible = lot != null && (lot.bottled() || (long) lot.all(0) + a[2] > expected(lot));
                break;
            case "trade":
                invalid = lot == null || noBuyer(a[1]) || noBuyer(a[2]) || a[1] == a[2] || out(a[3], 1, 999)
                    || out(a[4], 0, 999);
                impossible = !invalid && lot.of[a[1]][0] < a[3];
                break;
            case "redeem":
                invalid = lot == null || noBuyer(a[1]) || out(a[2], 1, 999);
                impossible = !invalid && (!lot.bottled() || lot.of[a[1]][0] < a[2]);
                break;
            default:
                invalid = out(a[0], 0, 1) || out(a[1], 0, a[0] == 0 ? 100 : 36);
                break;
        }
        return invalid ? INVALID : impossible ? NOT_POSSIBLE : limit ? LIMIT : 0;
    }

    private int expected(ModelLot lot) {
        return lot.casesAfter(settings[1]) * (100 - settings[0]) / 100;
    }

    /** Does what has no error. */
    private int effect(String call, int[] a) {
        switch (call) {
            case "lot": {
                ModelLot lot = new ModelLot();
                lot.rate = a[1];
                for (int i = 0; i < a[0]; i++) {
                    lot.wine.add(2250);
                }
                lots.add(lot);
                return lots.size() - 1;
            }
            case "taste": {
                ModelLot lot = lots.get(a[0]);
                int first = 0;
                while (lot.wine.get(first) < 10) {
                    first++;
                }
                lot.wine.set(first, lot.wine.get(first) - 10);
                lot.wine.removeIf(w -> w == 0);
                lot.scores.add(a[1]);
                return lot.quote();
            }
            case "top":
                lots.get(a[0]).topUp();
                return lots.get(a[0]).wine.size();
            case "pass": {
                int before = lost;
                for (int i = 0; i < a[0]; i++) {
                    month++;
                    for (ModelLot lot : lots) {
                        lost += lot.month();
                    }
                }
                return lost - before;
            }
            case "bottle": return bottleEffect(a[0]);
            case "buyer":
                accounts.add(0L);
                return accounts.size() - 1;
            case "sell": return sellEffect(a);
            case "trade": return tradeEffect(a);
            case "redeem": return redeemEffect(a);
            default: {
                int before = settings[a[0]];
                settings[a[0]] = a[1];
                return before;
            }
        }
    }

    private int bottleEffect(int number) {
        ModelLot lot = lots.get(number);
        ModelLot before = lot.copy();
        lot.casesWhenBottled = lot.litres() / 90;
        lot.wine.clear();
        int all = 0;
        for (int buyer = 0; buyer < accounts.size(); buyer++) {
            long gone = before.of[buyer][0] - before.after(buyer, lot.casesWhenBottled);
            if (gone > 0) {
                long money = before.of[buyer][1] * gone / before.of[buyer][0];
                lot.of[buyer][0] -= gone;
                lot.of[buyer][1] -= money;
                accounts.set(buyer, accounts.get(buyer) + money);
                estate -= money;
                note(2, number, buyer, (int) gone, (int) money, NOT_FOUND);
                all += gone;
            }
        }
        cut += all;
        return all;
    }

    private int sellEffect(int[] a) {
        long[] row = lots.get(a[0]).of[a[1]];
        row[0] += a[2];
        row[1] += (long) a[2] * a[3];
        accounts.set(a[1], accounts.get(a[1]) - (long) a[2] * a[3]);
        estate += (long) a[2] * a[3];
        note(0, a[0], a[1], a[2], a[3], NOT_FOUND);
        return (int) row[0];
    }

    private int tradeEffect(int[] a) {
        long[] seller = lots.get(a[0]).of[a[1]];
        long[] taker = lots.get(a[0]).of[a[2]];
        long money = (long) a[3] * a[4];
        seller[1] -= seller[1] * a[3] / seller[0];
        seller[0] -= a[3];
        taker[0] += a[3];
        taker[1] += money;
        accounts.set(a[1], accounts.get(a[1]) + money);
        accounts.set(a[2], accounts.get(a[2]) - money);
        note(1, a[0], a[2], a[3], a[4], a[1]);
        return (int) taker[0];
    }

    private int redeemEffect(int[] a) {
        ModelLot lot = lots.get(a[0]);
        long[] row = lot.of[a[1]];
        row[1] -= row[1] * a[2] / row[0];
        row[0] -= a[2];
        row[2] += a[2];
        note(3, a[0], a[1], a[2], NOT_FOUND, NOT_FOUND);
        return lot.casesWhenBottled - lot.all(2);
    }

    private void note(int... entry) {
        book.add(0, entry);
        if (book.size() > 12) {
            book.remove(12);
        }
    }

    private void record(EstateModel before) {
        history.add(before);
        if (history.size() == 5) {
            history.remove(0);
        }
    }

    int change(String call, int... a) {
        int error = error(call, a);
        if (error != 0) {
            return error;
        }
        record(copy());
        return effect(call, a);
    }

    int undo() {
        if (history.isEmpty()) {
            return NOT_POSSIBLE;
        }
        take(history.remove(history.size() - 1));
        return history.size();
    }

    int type(int character) {
        if (out(character, 32, 126)) {
            return INVALID;
        }
        if (text.length() == 60) {
            return LIMIT;
        }
        text += (char) character;
        return text.length();
    }

    int clearText() {
        int length = text.length();
        text = "";
        return length;
    }

    /** Position, reason and cause of the fault, or null; the orders ahead of it are done on the copy. */
    private int[] faultOn(EstateModel trial, int[] orders) {
        int at = 0;
        while (at < text.length()) {
            String rest = text.substring(at);
            Matcher order = ORDER.matcher(rest);
            if (!order.lookingAt()) {
                return new int[] {at, 1, longestBeginning(rest)};
            }
            List<String> parts = new ArrayList<>();
            for (int group = 1; group <= order.groupCount(); group++) {
                if (order.group(group) != null) {
                    parts.add(order.group(group));
                }
            }
            int[] a = parts.stream().skip(1).mapToInt(Integer::parseInt).toArray();
            String call = List.of("lot", "sell", "taste", "pass", "bottle").get("lstmb".indexOf(parts.get(0)));
            int error = trial.error(call, a);
            if (error != 0) {
                return new int[] {at, 2, error};
            }
            trial.effect(call, a);
            orders[0]++;
            at += order.end();
        }
        return null;
    }

    /** How many characters an order could begin with. */
    private static int longestBeginning(String rest) {
        for (int length = rest.length(); length > 0; length--) {
            Matcher beginning = ORDER.matcher(rest.substring(0, length));
            if (beginning.matches() || beginning.hitEnd()) {
                return length;
            }
        }
        return 0;
    }

    int fault(int what) {
        if (out(what, 0, 2)) {
            return INVALID;
        }
        int[] fault = faultOn(copy(), new int[1]);
        return fault == null ? NOT_FOUND : fault[what];
    }

    int play() {
        EstateModel trial = copy();
        int[] orders = new int[1];
        if (faultOn(trial, orders) != null) {
            return NOT_POSSIBLE;
        }
        record(copy());
        take(trial);
        return orders[0];
    }

    int lotOf(int number, int what) {
        if (noLot(number) || out(what, 0, 9)) {
            return INVALID;
        }
        ModelLot lot = lots.get(number);
        switch (what) {
            case 0: return lot.wine.size();
            case 1: return lot.rate;
            case 2: return lot.litres();
            case 3: return lot.bottled() ? lot.casesWhenBottled - lot.all(2) : lot.litres() / 90;
            case 4: return lot.bottled() ? lot.casesWhenBottled : expected(lot);
            case 5: return lot.all(0);
            case 6: return lot.quote();
            case 7: return lot.scores.size();
            case 8: return lot.bottled() ? 1 : 0;
            default: return lot.all(2);
        }
    }

    int barrel(int number, int barrel) {
        if (noLot(number) || barrel < 0) {
            return INVALID;
        }
        List<Integer> wine = lots.get(number).wine;
        return barrel < wine.size() ? wine.get(barrel) : NOT_FOUND;
    }

    int holding(int buyer, int number, int what) {
        if (noBuyer(buyer) || noLot(number) || out(what, 0, 3)) {
            return INVALID;
        }
        long[] row = lots.get(number).of[buyer];
        if (what < 3) {
            return (int) row[what];
        }
        return row[0] == 0 ? NOT_FOUND : Float.floatToIntBits((float) (int) row[1] / (float) (int) row[0]);
    }

    int account(int whose) {
        if (whose == -1) {
            return (int) estate;
        }
        return noBuyer(whose) ? INVALID : accounts.get(whose).intValue();
    }

    int entry(int index, int what) {
        if (index < 0 || out(what, 0, 5)) {
            return INVALID;
        }
        return index < book.size() ? book.get(index)[what] : NOT_FOUND;
    }

    int cases(int number, int months) {
        if (noLot(number) || out(months, 0, 120)) {
            return INVALID;
        }
        return lots.get(number).bottled() ? NOT_POSSIBLE : lots.get(number).casesAfter(months);
    }

    int sellable(int number) {
        if (noLot(number)) {
            return INVALID;
        }
        ModelLot lot = lots.get(number);
        return lot.bottled() ? NOT_POSSIBLE : Math.max(0, expected(lot) - lot.all(0));
    }

    int deadline(int number) {
        if (noLot(number)) {
            return INVALID;
        }
        ModelLot lot = lots.get(number).copy();
        if (lot.bottled()) {
            return NOT_POSSIBLE;
        }
        for (int months = 0; months <= 120; months++) {
            if (lot.litres() / 90 < lot.all(0)) {
                return months;
            }
            lot.month();
        }
        return NOT_FOUND;
    }

    int topping(int number) {
        int error = error("top", new int[] {number});
        if (error != 0) {
            return error;
        }
        ModelLot topped = lots.get(number).copy();
        topped.topUp();
        return topped.casesAfter(settings[1]) - lots.get(number).casesAfter(settings[1]);
    }

    int loser(int number, int what) {
        if (noLot(number) || out(what, 0, 1)) {
            return INVALID;
        }
        ModelLot lot = lots.get(number);
        if (lot.bottled()) {
            return NOT_POSSIBLE;
        }
        int[] best = {NOT_FOUND, 0};
        for (int buyer = accounts.size() - 1; buyer >= 0; buyer--) {
            int gone = (int) (lot.of[buyer][0] - lot.after(buyer, lot.litres() / 90));
            if (gone > 0 && gone >= best[1]) {
                best = new int[] {buyer, gone};
            }
        }
        return best[0] == NOT_FOUND ? NOT_FOUND : best[what];
    }

    int count(int what) {
        switch (what) {
            case 0: return lots.size();
            case 1: return accounts.size();
            case 2: return month;
            case 3: return (int) (estate + accounts.stream().mapToLong(Long::longValue).sum());
            case 4: return lots.stream().mapToInt(ModelLot::litres).sum();
            case 5: return lost;
            case 6: return lots.stream().mapToInt(lot -> lot.all(0)).sum();
            case 7: return lots.stream().mapToInt(lot -> lot.all(2)).sum();
            case 8: return cut;
            case 9: return book.size();
            case 10: return history.size();
            case 11: return text.length();
            case 20: return settings[0];
            case 21: return settings[1];
            default: return INVALID;
        }
    }
}
