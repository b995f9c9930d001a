import java.util.NoSuchElementException;

/** Promises 13 and 33 to 45: quarters, profit and tax. */
public final class TaxTest {
    public static void main(String[] args) {
        profit();
        profitTo();
        tax();
        rate();
        yearTax();
        closeQuarter();
        closeOfLosses();
        prepayment();
        recomputed();
        correction();
        settlement();
        interest();
        effectiveRate();
        whatIf();
        neededIncome();
        neededIncomeAtTheEdge();
        theGreatestYear();
        Check.end();
    }

    private static void profit() {
        CashLedger x = Ledgers.of("room 1 office 0 359;room 3;assets 10 20");
        x.addEntry(0, 0, 1000000, 0, 0);
        x.addEntry(0, 0, 200000, 0, 89);
        x.addEntry(0, 0, 50000, 0, 90);
        x.addEntry(1, 0, 3000, 0, 89);
        x.addEntry(2, 0, 403, 0, 30);
        x.addEntry(3, 0, 7777777, 0, 30);
        x.addEntry(0, 0, 5, 0, CashLedger.NONE);
        Check.same("33: entries", x.profit(0), 1200000 - 3000 - 100);
        Check.same("33: the next", x.profit(1), 50000);
        x.addAsset(10, 80, 5);
        x.addAsset(20, 179, 5);
        x.addAsset(600, 60, 6);
        Check.same("33: with assets", x.profit(0), 1196900 - 10 - 100);
        Check.same("33: with the pool", x.profit(1), 50000 - 300 - 2);
        Check.same("33: only written off", x.profit(2), -200 - 1);
        Check.same("33: only the pool", x.profit(3), -1);
        x.sellAsset(0, 359, 7);
        x.sellAsset(1, 270, 9);
        x.sellAsset(2, 180, 50);
        Check.same("33: sold", x.profit(2), 50 - 200 - 1);
        Check.same("33: sold small and pooled", x.profit(3), 7 + 9 - 1);
        x.cancel(1);
        Check.same("33: cancelled", x.profit(0), 996790);
        Check.fails("33: -1", IllegalArgumentException.class, () -> x.profit(-1));
        Check.fails("33: 4", IllegalArgumentException.class, () -> x.profit(4));
    }

    private static void profitTo() {
        CashLedger x = new CashLedger();
        x.addEntry(0, 0, 1, 0, 89);
        x.addEntry(1, 0, 10, 0, 90);
        x.addEntry(0, 0, 100, 0, 269);
        x.addEntry(0, 0, 1000, 0, 270);
        long[] due = {1, -9, 91, 1091};
        for (int q = 0; q < 4; q++) {
            Check.same("34: " + q, x.profitTo(q), due[q]);
        }
        Check.fails("34: -1", IllegalArgumentException.class, () -> x.profitTo(-1));
        Check.fails("34: 4", IllegalArgumentException.class, () -> x.profitTo(4));
    }

    private static void tax() {
        CashLedger x = Ledgers.of("bracket 100 100;bracket 200 0;bracket 300 333;top 900");
        long[][] due = {{0, 0}, {-1, 0}, {Integer.MIN_VALUE, 0}, {1, 0}, {9, 0}, {10, 1}, {100, 10}, {101, 10},
            {200, 10}, {202, 10}, {203, 10}, {204, 11}, {300, 43}, {301, 44}, {302, 45}, {303, 46},
            {Integer.MAX_VALUE, ((Integer.MAX_VALUE - 300L) * 900 + 43300) / 1000}};
        for (long[] row : due) {
            Check.same("35: " + row[0], x.tax((int) row[0]), row[1]);
        }
        CashLedger flat = Ledgers.of("top 1");
        Check.same("35: no brackets", flat.tax(999), 0);
        Check.same("35: no brackets, 1000", flat.tax(1000), 1);
        CashLedger five = Ledgers.of(
                "bracket 10 100;bracket 20 200;bracket 30 300;bracket 40 400;bracket 50 500;top 600");
        Check.same("35: five brackets", five.tax(60), 21);
        Check.same("35: rounded once", five.tax(15), 2);
        Check.same("35: parts together", Ledgers.of("bracket 1 500;top 500").tax(2), 1);
    }

    private static void rate() {
        CashLedger x = Ledgers.of("bracket 100 10;bracket 200 5;top 7");
        int[][] due = {{Integer.MIN_VALUE, 10}, {0, 10}, {100, 10}, {101, 5}, {200, 5}, {201, 7},
            {Integer.MAX_VALUE, 7}};
        for (int[] row : due) {
            Check.same("36: " + row[0], x.rate(row[0]), row[1]);
        }
        Check.same("36: no brackets", Ledgers.of("top 3").rate(-5), 3);
    }

    private static void yearTax() {
        CashLedger x = new CashLedger();
        Check.same("37: nothing", x.yearTax(), 0);
        x.addEntry(0, 0, 2000000, 0, 359);
        Check.same("37: a year", x.yearTax(), 250000);
        x.addEntry(1, 0, 2000001, 0, 0);
        Check.same("37: a loss", x.yearTax(), 0);
    }

    private static void closeQuarter() {
        CashLedger x = new CashLedger();
        x.addEntry(0, 0, 1000001, 0, 89);
        x.addEntry(0, 0, 500000, 0, 179);
        x.addEntry(1, 0, 1400000, 0, 180);
        x.addEntry(0, 0, 9999999, 0, 359);
        // estimates 4000004, 3000002, 134668 and 10100000, their targets 187500, 250000, 0 and 2972000
        Check.same("13: quarter 0", x.closeQuarter(), 750001 / 4);
        Check.same("13: quarter 1", x.closeQuarter(), 250000 - 187500);
        Check.same("13: quarter 2", x.closeQuarter(), 0);
        Check.same("13: quarter 3", x.closeQuarter(), 2972000 - 250000);
        Check.same("13: closed", x.count(7), 4);
        Check.same("13: changes", x.undoCount(), 8);
        String before = Ledgers.picture(x);
        Check.fails("13: all closed", IllegalStateException.class, x::closeQuarter);
        Check.same("13: nothing changed", Ledgers.picture(x), before);
    }

    private static void closeOfLosses() {
        CashLedger x = Ledgers.of("top 900");
        x.addEntry(1, 0, 100, 0, 0);
        x.addEntry(0, 0, 207, 0, 100);
        Check.same("13: a loss", x.closeQuarter(), 0);
        Check.same("13: rounded down", x.closeQuarter(), 192 * 2 / 4);
        x.addEntry(1, 0, 1000, 0, 100);
        Check.same("13: at least 0", x.closeQuarter(), 0);
        Check.same("13: at least 0 again", x.closeQuarter(), 0);
        CashLedger y = Ledgers.of("top 500");
        y.addEntry(0, 0, 10, 0, 270);
        y.addEntry(0, 0, 10, 0, 180);
        for (int i = 0; i < 2; i++) {
            Check.same("13: nothing yet", y.closeQuarter(), 0);
        }
        Check.same("13: estimate 13, tax 6, target 4", y.closeQuarter(), 4);
        Check.same("13: estimate 20, tax 10", y.closeQuarter(), 6);
    }

    private static void prepayment() {
        CashLedger x = Ledgers.of("top 500");
        Check.fails("38: quarter 0", NoSuchElementException.class, () -> x.prepayment(0));
        x.addEntry(0, 0, 1000, 0, 0);
        x.closeQuarter();
        Check.same("38: closed", x.prepayment(0), 500);
        x.addEntry(0, 0, 1000, 0, 0);
        x.cancel(0);
        x.cancel(1);
        Check.same("38: as it was", x.prepayment(0), 500);
        Check.fails("38: quarter 1", NoSuchElementException.class, () -> x.prepayment(1));
        Check.fails("38: -1", IllegalArgumentException.class, () -> x.prepayment(-1));
        Check.fails("38: 4", IllegalArgumentException.class, () -> x.prepayment(4));
        x.closeQuarter();
        x.closeQuarter();
        x.closeQuarter();
        Check.same("38: quarter 3", x.prepayment(3), 0);
    }

    private static void recomputed() {
        CashLedger x = Ledgers.of("top 500");
        x.addEntry(0, 0, 1000, 0, 0);
        x.addEntry(1, 0, 600, 0, 90);
        x.addEntry(0, 0, 2000, 0, 180);
        int[] due = {500, 0, 700, 0};
        for (int q = 0; q < 4; q++) {
            Check.same("39: " + q, x.recomputed(q), due[q]);
        }
        for (int q = 0; q < 4; q++) {
            Check.same("39: as closed " + q, x.closeQuarter(), due[q]);
        }
        x.cancel(1);
        int[] later = {500, 0, 1000, 0};
        for (int q = 0; q < 4; q++) {
            Check.same("39: later " + q, x.recomputed(q), later[q]);
        }
        Check.fails("39: -1", IllegalArgumentException.class, () -> x.recomputed(-1));
        Check.fails("39: 4", IllegalArgumentException.class, () -> x.recomputed(4));
    }

    private static void correction() {
        CashLedger x = Ledgers.of("top 500");
        x.addEntry(0, 0, 1000, 0, 0);
        x.addEntry(0, 0, 1000, 0, 90);
        x.closeQuarter();
        Check.same("40: none", x.correction(0), 0);
        x.addEntry(0, 0, 10, 0, 5);
        Check.same("40: more", x.correction(0), 5);
        x.cancel(0);
        Check.same("40: less", x.correction(0), -495);
        Check.fails("40: not closed", NoSuchElementException.class, () -> x.correction(1));
        Check.fails("40: -1", IllegalArgumentException.class, () -> x.correction(-1));
        Check.fails("40: 4", IllegalArgumentException.class, () -> x.correction(4));
        Check.same("40: closed behind a fault", x.closeQuarter(), 505 - 500);
        Check.same("40: of quarter 1", x.correction(1), 500 - 5);
    }

    private static void settlement() {
        CashLedger x = Ledgers.of("top 500");
        x.addEntry(0, 0, 1000, 0, 0);
        for (int q = 0; q < 4; q++) {
            Check.fails("41: open", IllegalStateException.class, x::settlement);
            x.closeQuarter();
        }
        Check.same("41: nothing", x.settlement(), 0);
        x.addEntry(0, 0, 100, 0, 359);
        Check.same("41: more", x.settlement(), 50);
        x.addEntry(1, 0, 800, 0, 359);
        Check.same("41: less", x.settlement(), 150 - 500);
    }

    private static void interest() {
        CashLedger x = Ledgers.of("top 900;interest 7");
        Check.same("42: nothing closed", x.interest(), 0);
        x.closeQuarter();
        x.closeQuarter();
        x.closeQuarter();
        x.addEntry(0, 0, 1000, 0, 0);
        x.addEntry(0, 0, 1003, 0, 95);
        x.addEntry(0, 0, 1007, 0, 185);
        x.addEntry(0, 0, 5000, 0, 300);
        Check.same("42: correction 0", x.correction(0), 900);
        Check.same("42: correction 1", x.correction(1), 902);
        Check.same("42: correction 2", x.correction(2), 906);
        Check.same("42: each rounded down", x.interest(), 25 + 18 + 12);
        x.addEntry(1, 0, 2000, 0, 0);
        Check.same("42: only above 0", x.interest(), 2 * 21 / 1000 + 906 * 14 / 1000);
        x.closeQuarter();
        x.addEntry(0, 0, 9000, 0, 359);
        Check.same("42: the last quarter", x.interest(), 12 + (13509 - 908 - 5409) * 7 / 1000);
        CashLedger none = Ledgers.of("top 900;interest 0");
        none.closeQuarter();
        none.addEntry(0, 0, 10000000, 0, 0);
        Check.same("42: rate 0", none.interest(), 0);
    }

    private static void effectiveRate() {
        CashLedger x = new CashLedger();
        Check.fails("43: 0", NoSuchElementException.class, x::effectiveRate);
        x.addEntry(0, 0, 3000001, 0, 5);
        Check.sameDouble("43: a rate", x.effectiveRate(), 500000 * 100.0 / 3000001);
        x.addEntry(1, 0, 3000000, 0, 5);
        Check.sameDouble("43: no tax", x.effectiveRate(), 0.0);
        x.addEntry(1, 0, 1, 0, 5);
        Check.fails("43: nothing left", NoSuchElementException.class, x::effectiveRate);
        x.addEntry(1, 0, 1, 0, 5);
        Check.fails("43: a loss", NoSuchElementException.class, x::effectiveRate);
    }

    private static void whatIf() {
        CashLedger x = Ledgers.of("top 500;room 1 office 0 29;room 1");
        x.addEntry(0, 0, 1001, 0, 359);
        Check.same("44: income", x.whatIf(0, 1, 0), 1);
        Check.same("44: expense", x.whatIf(1, 2, 0), -1);
        Check.same("44: shared", x.whatIf(2, 7, 29), -1);
        Check.same("44: shared, another month", x.whatIf(2, 1000, 30), 0);
        Check.same("44: private", x.whatIf(3, 1000, 0), 0);
        Check.same("44: at most all", x.whatIf(1, 10000000, 359), -500);
        Check.same("44: nothing changes", x.yearTax(), 500);
        Check.same("44: is no change", x.undoCount(), 1);
        Check.fails("44: kind -1", IllegalArgumentException.class, () -> x.whatIf(-1, 1, 0));
        Check.fails("44: kind 4", IllegalArgumentException.class, () -> x.whatIf(4, 1, 0));
        Check.fails("44: amount 0", IllegalArgumentException.class, () -> x.whatIf(0, 0, 0));
        Check.fails("44: amount 10000001", IllegalArgumentException.class, () -> x.whatIf(0, 10000001, 0));
        Check.fails("44: day -1", IllegalArgumentException.class, () -> x.whatIf(0, 1, -1));
        Check.fails("44: day 360", IllegalArgumentException.class, () -> x.whatIf(3, 1, 360));
        for (int i = 1; i < 60; i++) {
            x.addEntry(3, 0, 1, 0, 0);
        }
        Check.same("44: with 60 entries", x.whatIf(0, 1, 0), 1);
    }

    private static void neededIncome() {
        CashLedger x = new CashLedger();
        Check.same("45: no tax", x.neededIncome(1000000), 1000000);
        Check.same("45: a little", x.neededIncome(1), 1);
        Check.same("45: tax of 1 from 4 on", x.neededIncome(1000003), 1000003);
        Check.same("45: the least of two", x.neededIncome(1000004), 1000005);
        x.addEntry(1, 0, 500, 0, 0);
        Check.same("45: out of a loss", x.neededIncome(1000500), 1000500);
        x.addEntry(0, 0, 7000500, 0, 0);
        Check.same("45: at the top rate", x.neededIncome(580), 999);
        Check.fails("45: 0", IllegalArgumentException.class, () -> x.neededIncome(0));
        Check.fails("45: 10000001", IllegalArgumentException.class, () -> x.neededIncome(10000001));
        Check.same("45: 10000000", x.neededIncome(10000000), 17241378);
        Check.same("45: is no change", x.undoCount(), 2);
    }

    private static void neededIncomeAtTheEdge() {
        CashLedger x = Ledgers.of("top 900");
        Check.same("45: the greatest", x.neededIncome(10000000), 99999991);
        x.addEntry(0, 0, 1, 0, 0);
        Check.same("45: the greatest income", x.neededIncome(10000000), 100000000);
        for (int i = 2; i <= 10; i++) {
            x.addEntry(0, 0, 1, 0, 0);
        }
        Check.same("45: at a round profit", x.neededIncome(10000000), 99999991);
        CashLedger y = Ledgers.of("bracket 1 0;top 900");
        y.addEntry(0, 0, 1, 0, 0);
        Check.same("45: one free before", y.neededIncome(10000000), 99999991);
        CashLedger z = Ledgers.of("bracket 99999999 899;top 900");
        Check.same("45: below the limit", z.neededIncome(10000000), 99009892);
    }

    private static void theGreatestYear() {
        CashLedger x = Ledgers.of("top 900;assets 0 0;interest 100");
        for (int i = 0; i < 12; i++) {
            x.addAsset(5000000, 0, 1);
            x.sellAsset(i, 0, 5000000);
        }
        x.closeQuarter();
        for (int i = 0; i < 60; i++) {
            x.addEntry(0, 0, 10000000, 0, 0);
        }
        Check.same("33: the greatest", x.profit(0), 600000000);
        Check.same("39: the greatest", x.recomputed(0), 540000000);
        Check.same("42: the greatest", x.interest(), 540000000L * 4 / 10);
        x.undo();
        Check.same("13: quarter 1", x.closeQuarter(), 531000000);
        Check.same("46: the greatest", x.balance(0), 590000000);
        Check.same("46: behind the quarter", x.balance(359), 590000000 - 531000000);
        for (int i = 0; i < 59; i++) {
            x.cancel(i);
        }
        Check.same("40: the least", x.correction(1), 0 - 531000000);
    }
}
