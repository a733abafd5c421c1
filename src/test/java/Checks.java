/** Compares answers with those that are due, and prints those that differ. */
final class Checks {
    private final String name;
    private int wrong = 0;

    Checks(String name) {
        this.name = name;
    }

    void due(String call, long got, long want) {
        if (got != want) {
            wrong++;
            System.out.println(name + ": " + call + " answered " + got + ", due is " + want);
        }
    }

    void dueRow(String call, int[] got, int... want) {
        due(call + " (how many)", got.length, want.length);
        for (int i = 0; i < got.length && i < want.length; i++) {
            due(call + " [" + i + "]", got[i], want[i]);
        }
    }

    void that(String what, boolean holds) {
        due(what, holds ? 1 : 0, 1);
    }

    boolean passed() {
        return wrong == 0;
    }

    static void typeAll(LongEstate x, String text) {
        for (int i = 0; i < text.length(); i++) {
            x.type(text.charAt(i));
        }
    }

    static void retype(LongEstate x, String text) {
        x.clearText();
        typeAll(x, text);
    }

    /** All that can be asked of an object but of its text and the number of its states. */
    static String snapshot(LongEstate x) {
        StringBuilder all = new StringBuilder();
        for (int what = 0; what <= 9; what++) {
            all.append(x.count(what)).append(' ');
        }
        all.append(x.count(20)).append(' ').append(x.count(21)).append(' ').append(x.account(-1));
        for (int buyer = 0; buyer < x.count(1); buyer++) {
            all.append("\naccount ").append(x.account(buyer));
        }
        for (int lot = 0; lot < x.count(0); lot++) {
            all.append("\nlot");
            for (int what = 0; what <= 9; what++) {
                all.append(' ').append(x.lotOf(lot, what));
            }
            for (int barrel = 0; barrel < x.lotOf(lot, 0); barrel++) {
                all.append(" b").append(x.barrel(lot, barrel));
            }
            for (int buyer = 0; buyer < x.count(1); buyer++) {
                all.append(" :");
                for (int what = 0; what <= 2; what++) {
                    all.append(' ').append(x.holding(buyer, lot, what));
                }
            }
        }
        for (int index = 0; index < x.count(9); index++) {
            all.append("\nentry");
            for (int what = 0; what <= 5; what++) {
                all.append(' ').append(x.entry(index, what));
            }
        }
        return all.toString();
    }
}
