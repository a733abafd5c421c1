import java.util.ArrayList;
import java.util.List;

/**
 * An estate for tests that ask more than an object of WineFutures answers for: behind 512 calls another object takes
 * its place, with which all calls that can be changes, or are of the text, have been done again.
 */
final class LongEstate {
    private static final int MOST_CALLS = 512;

    private interface Call {
        int answer(WineFutures x);
    }

    private final List<Call> done = new ArrayList<>();
    private WineFutures estate = new WineFutures();
    private int calls = 0;
    private boolean keepsQuestions = false;

    /** A question that must change nothing is kept like a change, or another object would hide what it has changed. */
    void keepQuestions(boolean keep) {
        keepsQuestions = keep;
    }

    private int change(Call call) {
        int answer = asked(call);
        done.add(call);
        return answer;
    }

    private int ask(Call call) {
        return keepsQuestions ? change(call) : asked(call);
    }

    private int asked(Call call) {
        if (calls >= MOST_CALLS) {
            renew();
        }
        calls++;
        return call.answer(estate);
    }

    private void renew() {
        if (done.size() >= MOST_CALLS) {
            throw new IllegalStateException("the test does more with one estate than an object answers for");
        }
        estate = new WineFutures();
        for (Call call : done) {
            call.answer(estate);
        }
        calls = done.size();
    }

    int lot(int barrels, int rate) {
        return change(x -> x.lot(barrels, rate));
    }

    int taste(int lot, int score) {
        return change(x -> x.taste(lot, score));
    }

    int top(int lot) {
        return change(x -> x.top(lot));
    }

    int pass(int months) {
        return change(x -> x.pass(months));
    }

    int bottle(int lot) {
        return change(x -> x.bottle(lot));
    }

    int buyer() {
        return change(x -> x.buyer());
    }

    int sell(int lot, int buyer, int cases, int price) {
        return change(x -> x.sell(lot, buyer, cases, price));
    }

    int trade(int lot, int from, int to, int cases, int price) {
        return change(x -> x.trade(lot, from, to, cases, price));
    }

    int redeem(int lot, int buyer, int cases) {
        return change(x -> x.redeem(lot, buyer, cases));
    }

    int set(int what, int value) {
        return change(x -> x.set(what, value));
    }

    int undo() {
        return change(x -> x.undo());
    }

    int type(int character) {
        return change(x -> x.type(character));
    }

    int clearText() {
        return change(x -> x.clearText());
    }

    int play() {
        return change(x -> x.play());
    }

    int lotOf(int lot, int what) {
        return ask(x -> x.lotOf(lot, what));
    }

    int barrel(int lot, int barrel) {
        return ask(x -> x.barrel(lot, barrel));
    }

    int holding(int buyer, int lot, int what) {
        return ask(x -> x.holding(buyer, lot, what));
    }

    int account(int whose) {
        return ask(x -> x.account(whose));
    }

    int entry(int index, int what) {
        return ask(x -> x.entry(index, what));
    }

    int cases(int lot, int months) {
        return ask(x -> x.cases(lot, months));
    }

    int sellable(int lot) {
        return ask(x -> x.sellable(lot));
    }

    int deadline(int lot) {
        return ask(x -> x.deadline(lot));
    }

    int topping(int lot) {
        return ask(x -> x.topping(lot));
    }

    int loser(int lot, int what) {
        return ask(x -> x.loser(lot, what));
    }

    int count(int what) {
        return ask(x -> x.count(what));
    }

    int fault(int what) {
        return ask(x -> x.fault(what));
    }
}
