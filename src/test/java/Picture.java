import java.util.function.Supplier;

/**
 * All that a ledger answers, as a text: equal pictures, equal ledgers. Each part is told by a fresh
 * ledger of the same making, since an object answers 512 calls only.
 */
final class Picture {
    private static final int ENTRIES_A_PART = 20;

    private Picture() {
    }

    static String of(Supplier<CashLedger> maker) {
        StringBuilder all = new StringBuilder();
        all.append(numbers(maker.get())).append("\nbuffer ").append(buffer(maker.get()));
        for (int from = 0; from < 60; from += ENTRIES_A_PART) {
            all.append("\nentries ").append(entries(maker.get(), from));
        }
        all.append("\nassets ").append(assets(maker.get())).append("\nbalances ").append(balances(maker.get()));
        all.append("\nundone ").append(undone(maker.get())).append("\nrestored ").append(restored(maker.get()));
        return all.toString();
    }

    private static String buffer(CashLedger x) {
        StringBuilder all = new StringBuilder();
        int length = x.append(0, 0, 0, 0, 0);
        int step = 1 + length / 150;
        for (int left = length; left >= 0; left -= step) {
            all.append(x.truncate(left)).append(' ').append(x.errorPosition()).append(' ');
        }
        return all.toString();
    }

    private static String entries(CashLedger x, int from) {
        StringBuilder all = new StringBuilder();
        int end = Math.min(x.count(0), from + ENTRIES_A_PART);
        for (int i = from; i < end; i++) {
            for (int what = 0; what <= 6; what++) {
                all.append(x.entry(i, what)).append(' ');
            }
            all.append(x.deductible(i)).append("; ");
        }
        return all.toString();
    }

    private static String assets(CashLedger x) {
        StringBuilder all = new StringBuilder();
        int size = x.count(5);
        for (int i = 0; i < size; i++) {
            for (int what = 0; what <= 5; what++) {
                all.append(x.asset(i, what)).append(' ');
            }
            for (int month = 0; month < 12; month++) {
                all.append(x.written(i, month)).append('/').append(x.bookValue(i, month)).append(' ');
            }
            all.append("; ");
        }
        return all.toString();
    }

    private static String balances(CashLedger x) {
        StringBuilder all = new StringBuilder();
        for (int day = 0; day < 360; day++) {
            all.append(x.balance(day)).append(' ');
        }
        return all.toString();
    }

    private static String undone(CashLedger x) {
        StringBuilder all = new StringBuilder();
        for (int step = 0; step < 8 && x.undoCount() > 0; step++) {
            all.append(x.undo()).append(": ").append(shortOf(x)).append("; ");
        }
        return all.toString();
    }

    private static String restored(CashLedger x) {
        int entries;
        try {
            entries = x.restore();
        } catch (IllegalStateException e) {
            return "nothing";
        }
        return entries + ": " + numbers(x);
    }

    /** Few calls, so that it can be told behind each of eight undone changes. */
    private static String shortOf(CashLedger x) {
        StringBuilder all = new StringBuilder();
        for (int what = 0; what <= 7; what++) {
            all.append(x.count(what)).append(' ');
        }
        for (int kind = 0; kind <= 3; kind++) {
            all.append(x.total(kind, 0, 359)).append(' ').append(x.open(kind)).append(' ');
        }
        for (int quarter = 0; quarter <= 3; quarter++) {
            all.append(x.profit(quarter)).append(' ');
        }
        for (int month = 0; month < 12; month += 5) {
            all.append(x.share(month, false)).append('/').append(x.share(month, true)).append(' ');
        }
        all.append(x.balance(0)).append(' ').append(x.balance(359)).append(' ').append(x.lowestDay());
        return all.append(' ').append(x.interest()).append(' ').append(x.undoCount()).toString();
    }

    private static String numbers(CashLedger x) {
        StringBuilder all = new StringBuilder(shortOf(x));
        for (int room = 0; room < x.count(4); room++) {
            for (int what = 0; what <= 2; what++) {
                all.append(' ').append(x.room(room, what));
            }
        }
        for (int month = 0; month < 12; month++) {
            all.append(' ').append(x.share(month, false)).append('/').append(x.share(month, true));
        }
        for (int category = 0; category <= 9; category++) {
            all.append(' ').append(x.byCategory(category, true)).append(' ').append(x.byCategory(category, false));
        }
        for (int quarter = 0; quarter <= 3; quarter++) {
            all.append(' ').append(x.pool(quarter)).append(' ').append(x.poolWritten(quarter));
            all.append(' ').append(x.profitTo(quarter)).append(' ').append(x.recomputed(quarter));
            if (quarter < x.count(7)) {
                all.append(' ').append(x.prepayment(quarter)).append(' ').append(x.correction(quarter));
            }
        }
        for (int amount = 1; amount < 1000000000; amount *= 10) {
            all.append(' ').append(x.tax(amount)).append(' ').append(x.rate(amount));
        }
        all.append(' ').append(x.count(8)).append(' ').append(x.yearTax()).append(' ').append(x.daysBelow(0));
        all.append(' ').append(x.bestMonth()).append(' ').append(x.neededIncome(1000));
        return all.toString();
    }
}
