/** Boundaries of sections 5 to 7 and promises 33 to 45: quarters, brackets, prepayments and what follows from them. */
public final class TaxEdgesTest {
    public static void main(String[] args) {
        profitRange();
        profitAtTheEdgesOfQuarters();
        profitOfSharedExpenses();
        profitOfAssetsByQuarter();
        profitOfSales();
        profitOfWhatDoesNotCount();
        profitToSumsUp();
        greatestAndLeastProfit();
        taxOfNothingOrLess();
        taxAtTheLimits();
        taxRoundsOnce();
        taxOfRateEdges();
        taxOfAnyNumber();
        rateAtTheLimits();
        rateWithoutBrackets();
        yearTaxOfLosses();
        yearTaxAsItIsNow();
        yearTaxEndsWithTheYear();
        prepaymentRange();
        prepaymentOfOpenQuarters();
        prepaymentStays();
        recomputedRange();
        recomputedAsIfNoneWereClosed();
        correctionRange();
        correctionOfOpenQuarters();
        correctionOnBothSides();
        settlementOfOpenQuarters();
        settlementOnBothSides();
        interestOfNothing();
        interestOnlyAboveZero();
        interestByQuarter();
        interestRoundsEach();
        effectiveRateOfNothing();
        effectiveRateEdges();
        whatIfRanges();
        whatIfEdges();
        whatIfOfAFullLedger();
        whatIfChangesNothing();
        neededIncomeRange();
        neededIncomeEdges();
        neededIncomeIsTheLeast();
        neededIncomeChangesNothing();
        Check.end();
    }

    // ---- Promises 33 and 34

    private static void profitRange() {
        Edge.range("33: quarter", Edge::busy, 0, 3, (x, v) -> x.profit(v));
        Edge.range("34: quarter", Edge::busy, 0, 3, (x, v) -> x.profitTo(v));
    }

    private static void profits(String what, CashLedger x, long... due) {
        long sum = 0;
        for (int q = 0; q < 4; q++) {
            sum += due[q];
            Check.same("33: " + what + ", quarter " + q, x.profit(q), due[q]);
            Check.same("34: " + what + ", to " + q, x.profitTo(q), sum);
        }
    }

    private static void profitAtTheEdgesOfQuarters() {
        for (int q = 0; q < 4; q++) {
            CashLedger x = new CashLedger();
            x.addEntry(0, 0, 100, 0, 90 * q);
            x.addEntry(0, 0, 1000, 0, 90 * q + 89);
            x.addEntry(1, 0, 1, 0, 90 * q);
            x.addEntry(1, 0, 10, 0, 90 * q + 89);
            long[] due = new long[4];
            due[q] = 1089;
            profits("the edges of " + q, x, due);
        }
    }

    private static void profitOfSharedExpenses() {
        CashLedger x = Ledgers.of("room 1 office 60 89;room 1");
        x.addEntry(2, 0, 101, 0, 60);
        x.addEntry(2, 0, 101, 0, 89);
        x.addEntry(2, 0, 101, 0, 59);
        x.addEntry(2, 0, 101, 0, 90);
        profits("each rounded down", x, -100, 0, 0, 0);
    }

    private static void profitOfAssetsByQuarter() {
        CashLedger x = Ledgers.of("assets 10 20");
        x.addAsset(10, 89, 1);
        x.addAsset(10, 90, 1);
        profits("small ones", x, -10, -10, 0, 0);
        x.addAsset(20, 179, 1);
        profits("and a pooled one", x, -10, -12, -1, -1);
        x.addAsset(1200, 60, 12);
        profits("and a single one", x, -110, -312, -301, -301);
        x.sellAsset(3, 270, 0);
        profits("and that one sold", x, -110, -312, -301, -501);
    }

    private static void profitOfSales() {
        for (int day : new int[] {0, 89, 90, 179, 180, 269, 270, 359}) {
            CashLedger x = new CashLedger();
            x.addAsset(1, 0, 1);
            x.sellAsset(0, day, 5000000);
            long[] due = {-1, 0, 0, 0};
            due[day / 90] += 5000000;
            profits("sold on " + day, x, due);
        }
    }

    private static void profitOfWhatDoesNotCount() {
        CashLedger x = Ledgers.of("start 10000000;room 1 office 0 359");
        profits("the start is none", x, 0, 0, 0, 0);
        for (int kind = 0; kind <= 3; kind++) {
            x.addEntry(kind, 0, 100, 0, Edge.NONE);
            x.addEntry(kind, 0, 100, 0, 5);
            x.cancel(2 * kind + 1);
        }
        x.addEntry(3, 0, 100, 0, 5);
        profits("open, cancelled, private", x, 0, 0, 0, 0);
        x.closeQuarter();
        profits("a closed quarter", x, 0, 0, 0, 0);
    }

    private static void profitToSumsUp() {
        CashLedger x = new CashLedger();
        x.addEntry(1, 0, 1, 0, 0);
        x.addEntry(0, 0, 10, 0, 179);
        x.addEntry(1, 0, 100, 0, 180);
        x.addEntry(0, 0, 1000, 0, 359);
        profits("both signs", x, -1, 10, -100, 1000);
        profits("nothing", new CashLedger(), 0, 0, 0, 0);
    }

    private static void greatestAndLeastProfit() {
        CashLedger most = new CashLedger();
        CashLedger least = Ledgers.of("assets 0 0");
        for (int i = 0; i < 60; i++) {
            most.addEntry(0, 0, 10000000, 0, 359);
            least.addEntry(1, 0, 10000000, 0, 0);
        }
        for (int i = 0; i < 12; i++) {
            most.addAsset(1, 0, 1);
            most.sellAsset(i, 359, 5000000);
            least.addAsset(5000000, 0, 1);
        }
        profits("the greatest", most, -12, 0, 0, 660000000);
        profits("the least", least, -660000000, 0, 0, 0);
        Check.same("37: of the least", least.yearTax(), 0);
        Check.same("37: of the greatest", most.yearTax(), 1250000 + (659999988L - 6000000) * 420 / 1000);
    }

    // ---- Promises 35 to 37

    private static void taxIs(String text, int amount, long due) {
        Check.same("35: tax of " + amount + " by " + text, Ledgers.of(text).tax(amount), due);
    }

    private static void taxOfNothingOrLess() {
        for (String text : new String[] {"top 900", "bracket 1 900;top 900", "top 0"}) {
            taxIs(text, 0, 0);
            taxIs(text, -1, 0);
            taxIs(text, -1000, 0);
            taxIs(text, Integer.MIN_VALUE, 0);
        }
        taxIs("top 900", 1, 0);
        taxIs("top 900", 2, 1);
    }

    private static void taxAtTheLimits() {
        String five = "bracket 10 100;bracket 20 200;bracket 30 300;bracket 40 400;bracket 50 500;top 600";
        int[] amounts = {9, 10, 14, 15, 19, 20, 23, 24, 30, 32, 33, 39, 40, 42, 49, 50, 51, 52, 55, 60};
        int[] due = {0, 1, 1, 2, 2, 3, 3, 4, 6, 6, 7, 9, 10, 11, 14, 15, 15, 16, 18, 21};
        for (int i = 0; i < amounts.length; i++) {
            taxIs(five, amounts[i], due[i]);
        }
        taxIs("bracket 1000 0;top 900", 1000, 0);
        taxIs("bracket 1000 0;top 900", 1001, 0);
        taxIs("bracket 1000 0;top 900", 1002, 1);
        taxIs("bracket 1000 900;top 0", 999, 899);
        taxIs("bracket 1000 900;top 0", 1000, 900);
        taxIs("bracket 1000 900;top 0", 1001, 900);
        taxIs("bracket 99999999 0;top 900", 99999999, 0);
        taxIs("bracket 99999999 0;top 900", 100000001, 1);
        taxIs("bracket 1 0;bracket 2 900;top 0", 1, 0);
        taxIs("bracket 1 0;bracket 2 900;top 0", 2, 0);
        taxIs("bracket 1 0;bracket 3 900;top 0", 3, 1);
        taxIs("bracket 1 0;bracket 3 900;top 0", Integer.MAX_VALUE, 1);
    }

    private static void taxRoundsOnce() {
        taxIs("bracket 1 500;top 500", 1, 0);
        taxIs("bracket 1 500;top 500", 2, 1);
        taxIs("bracket 1 333;bracket 2 333;top 334", 3, 1);
        taxIs("bracket 1 333;bracket 2 333;top 333", 3, 0);
        taxIs("top 1", 999, 0);
        taxIs("top 1", 1000, 1);
        taxIs("top 1", 1999, 1);
    }

    private static void taxOfRateEdges() {
        taxIs("top 0", Integer.MAX_VALUE, 0);
        taxIs("top 900", 10, 9);
        taxIs("bracket 10 0;top 0", 100, 0);
        taxIs("bracket 10 900;top 900", 10, 9);
        taxIs("bracket 10 900;top 900", 20, 18);
    }

    private static void taxOfAnyNumber() {
        taxIs("top 900", Integer.MAX_VALUE, 1932735282);
        taxIs("top 900", Integer.MAX_VALUE - 1, 1932735281);
        CashLedger x = new CashLedger();
        Check.same("35: the greatest by the first setup", x.tax(Integer.MAX_VALUE), 1250000 + 2141483647L * 420 / 1000);
        Check.same("35: nothing up to the first limit", x.tax(1000000), 0);
        Check.same("35: too little behind it", x.tax(1000003), 0);
        Check.same("35: a cent behind it", x.tax(1000004), 1);
        Check.same("35: up to the second limit", x.tax(6000000), 1250000);
        Check.same("35: behind it", x.tax(6000003), 1250001);
    }

    private static void rateAtTheLimits() {
        CashLedger x = Ledgers.of("bracket 1 11;bracket 2 22;bracket 10 33;bracket 20 44;bracket 99999999 55;top 66");
        int[] amounts = {Integer.MIN_VALUE, -1, 0, 1, 2, 3, 9, 10, 11, 20, 21, 99999998, 99999999, 100000000,
            Integer.MAX_VALUE};
        int[] due = {11, 11, 11, 11, 22, 33, 33, 33, 44, 44, 55, 55, 55, 66, 66};
        for (int i = 0; i < amounts.length; i++) {
            Check.same("36: " + amounts[i], x.rate(amounts[i]), due[i]);
        }
    }

    private static void rateWithoutBrackets() {
        for (int amount : new int[] {Integer.MIN_VALUE, -1, 0, 1, Integer.MAX_VALUE}) {
            Check.same("36: only the top rate, " + amount, Ledgers.of("top 900").rate(amount), 900);
            Check.same("36: the top rate of 0, " + amount, Ledgers.of("top 0").rate(amount), 0);
            Check.same("36: the top rate if it is missing, " + amount, Ledgers.of("start 1").rate(amount), 420);
        }
    }

    private static CashLedger earning(int amount) {
        CashLedger x = Ledgers.of("top 900");
        if (amount != 0) {
            x.addEntry(amount > 0 ? 0 : 1, 0, Math.abs(amount), 0, 359);
        }
        return x;
    }

    private static void yearTaxOfLosses() {
        int[] amounts = {-10000000, -1, 0, 1, 2, 10};
        int[] due = {0, 0, 0, 0, 1, 9};
        for (int i = 0; i < amounts.length; i++) {
            Check.same("37: a profit of " + amounts[i], earning(amounts[i]).yearTax(), due[i]);
        }
    }

    private static void yearTaxAsItIsNow() {
        CashLedger x = earning(1000);
        for (int q = 0; q < 4; q++) {
            x.closeQuarter();
        }
        Check.same("37: closed", x.yearTax(), 900);
        x.pay(0, Edge.NONE);
        Check.same("37: as it is now", x.yearTax(), 0);
        x.pay(0, 0);
        Check.same("37: in any quarter", x.yearTax(), 900);
        x.cancel(0);
        Check.same("37: as it is at last", x.yearTax(), 0);
    }

    private static void yearTaxEndsWithTheYear() {
        CashLedger x = Ledgers.of("top 500;assets 10 20000");
        x.addEntry(0, 0, 100000, 0, 359);
        x.addAsset(60000, 330, 60);
        Check.same("37: one month of sixty", x.yearTax(), (100000 - 1000) / 2);
        x.addAsset(20000, 359, 1);
        Check.same("37: four twentieths of the pool", x.yearTax(), (100000 - 1000 - 4000) / 2);
        Check.sameDouble("43: the profit of the year", x.effectiveRate(), 50.0);
    }

    // ---- Promises 38 to 40

    private static CashLedger closed(int quarters) {
        CashLedger x = Ledgers.of("top 500;interest 100");
        x.addEntry(0, 0, 1000, 0, 0);
        for (int q = 0; q < quarters; q++) {
            x.closeQuarter();
        }
        return x;
    }

    private static void prepaymentRange() {
        Edge.range("38: quarter of all closed", () -> closed(4), 0, 3, (x, v) -> x.prepayment(v));
        for (int quarter : new int[] {-1, 4, Integer.MIN_VALUE, Integer.MAX_VALUE}) {
            Edge.refused("38: the range first, " + quarter, () -> closed(0), Edge.ARGUMENT, x -> x.prepayment(quarter));
        }
    }

    private static void prepaymentOfOpenQuarters() {
        for (int count = 0; count <= 4; count++) {
            int quarters = count;
            for (int q = 0; q < 4; q++) {
                int quarter = q;
                if (q < count) {
                    Check.same("38: quarter " + q + " of " + count, closed(count).prepayment(q), q == 0 ? 500 : 0);
                } else {
                    Edge.refused("38: quarter " + q + " of " + count, () -> closed(quarters), Edge.ELEMENT,
                            x -> x.prepayment(quarter));
                }
            }
        }
    }

    private static void prepaymentStays() {
        CashLedger x = Ledgers.of("top 500;assets 0 0;room 1");
        x.addEntry(0, 0, 1000, 0, 0);
        x.addEntry(2, 0, 500, 0, 0);
        x.addAsset(1, 0, 1);
        x.closeQuarter();
        Check.same("38: as it was closed", x.prepayment(0), 499);
        x.addEntry(0, 0, 777, 0, 0);
        x.pay(0, 359);
        x.setOffice(0, 0, 359);
        x.addAsset(2, 0, 1);
        x.sellAsset(0, 0, 9);
        x.setStart(5);
        x.cancel(0);
        x.closeQuarter();
        Check.same("38: whatever changes", x.prepayment(0), 499);
        x.undo();
        Check.same("38: also behind undo", x.prepayment(0), 499);
        Check.fails("38: not closed any more", Edge.ELEMENT, () -> x.prepayment(1));
    }

    private static void recomputedRange() {
        Edge.range("39: quarter of none closed", () -> closed(0), 0, 3, (x, v) -> x.recomputed(v));
        Edge.range("39: quarter of all closed", () -> closed(4), 0, 3, (x, v) -> x.recomputed(v));
    }

    private static void recomputedIs(String what, CashLedger x, int... due) {
        for (int q = 0; q < 4; q++) {
            Check.same("39: " + what + ", quarter " + q, x.recomputed(q), due[q]);
        }
    }

    private static void recomputedAsIfNoneWereClosed() {
        for (int count = 0; count <= 4; count++) {
            CashLedger x = closed(count);
            recomputedIs("closed " + count, x, 500, 0, 0, 0);
            x.addEntry(1, 0, 600, 0, 0);
            x.addEntry(0, 0, 2000, 0, 90);
            x.addEntry(1, 0, 2400, 0, 180);
            recomputedIs("with losses, closed " + count, x, 200, 1000, 0, 0);
            x.addEntry(0, 0, 2000, 0, 359);
            // 2000 in four quarters ask for 1000, of which 1200 were paid.
            recomputedIs("less than was paid, closed " + count, x, 200, 1000, 0, 0);
            x.addEntry(0, 0, 402, 0, 359);
            recomputedIs("a cent more than was paid, closed " + count, x, 200, 1000, 0, 1);
        }
        recomputedIs("nothing", new CashLedger(), 0, 0, 0, 0);
        recomputedIs("a loss", earning(-5), 0, 0, 0, 0);
    }

    private static void correctionRange() {
        Edge.range("40: quarter of all closed", () -> closed(4), 0, 3, (x, v) -> x.correction(v));
        for (int quarter : new int[] {-1, 4, Integer.MIN_VALUE, Integer.MAX_VALUE}) {
            Edge.refused("40: the range first, " + quarter, () -> closed(0), Edge.ARGUMENT, x -> x.correction(quarter));
        }
    }

    private static void correctionOfOpenQuarters() {
        for (int count = 0; count <= 4; count++) {
            int quarters = count;
            for (int q = 0; q < 4; q++) {
                int quarter = q;
                if (q < count) {
                    Check.same("40: quarter " + q + " of " + count, closed(count).correction(q), 0);
                } else {
                    Edge.refused("40: quarter " + q + " of " + count, () -> closed(quarters), Edge.ELEMENT,
                            x -> x.correction(quarter));
                }
            }
        }
    }

    private static void correctionOnBothSides() {
        int[] amounts = {2, 1, -2, -1000, -5000};
        int[] due = {1, 0, -1, -500, -500};
        for (int i = 0; i < amounts.length; i++) {
            CashLedger x = closed(1);
            x.addEntry(amounts[i] > 0 ? 0 : 1, 0, Math.abs(amounts[i]), 0, 89);
            Check.same("40: with " + amounts[i], x.correction(0), due[i]);
        }
    }

    // ---- Promises 41 to 43

    private static void settlementOfOpenQuarters() {
        for (int count = 0; count < 4; count++) {
            int quarters = count;
            Edge.refused("41: closed " + count, () -> closed(quarters), Edge.STATE, x -> x.settlement());
        }
        Check.same("41: all closed", closed(4).settlement(), 0);
        CashLedger x = closed(4);
        x.undo();
        Check.fails("41: not all any more", Edge.STATE, x::settlement);
    }

    private static void settlementOnBothSides() {
        int[] amounts = {2, 1, -1, -2, -1000, -5000};
        int[] due = {1, 0, -1, -1, -500, -500};
        for (int i = 0; i < amounts.length; i++) {
            CashLedger x = closed(4);
            x.addEntry(amounts[i] > 0 ? 0 : 1, 0, Math.abs(amounts[i]), 0, 359);
            Check.same("41: with " + amounts[i], x.settlement(), due[i]);
        }
        CashLedger nothing = new CashLedger();
        for (int q = 0; q < 4; q++) {
            nothing.closeQuarter();
        }
        Check.same("41: nothing at all", nothing.settlement(), 0);
    }

    private static void interestOfNothing() {
        Check.same("42: nothing closed", new CashLedger().interest(), 0);
        CashLedger x = Ledgers.of("top 500;interest 100");
        x.addEntry(0, 0, 1000000, 0, 0);
        Check.same("42: an open quarter has none", x.interest(), 0);
        x.closeQuarter();
        Check.same("42: a correction of 0", x.interest(), 0);
        CashLedger y = Ledgers.of("top 500;interest 0");
        y.closeQuarter();
        y.addEntry(0, 0, 1000000, 0, 0);
        Check.same("42: the rate 0", y.interest(), 0);
    }

    private static void interestOnlyAboveZero() {
        CashLedger x = Ledgers.of("top 500;interest 100");
        x.addEntry(0, 0, 2000, 0, 0);
        x.closeQuarter();
        x.closeQuarter();
        x.cancel(0);
        Check.same("42: a correction below 0", x.correction(0), -1000);
        Check.same("42: has no interest", x.interest(), 0);
        x.addEntry(0, 0, 400, 0, 100);
        Check.same("42: a correction above 0", x.correction(1), 200);
        Check.same("42: is not lessened by one below 0", x.interest(), 200 * 300 / 1000);
    }

    private static void interestByQuarter() {
        long[] due = {12000, 9000, 6000, 3000};
        for (int q = 0; q < 4; q++) {
            CashLedger x = Ledgers.of("top 500;interest 100");
            for (int i = 0; i <= q; i++) {
                x.closeQuarter();
            }
            x.addEntry(0, 0, 60000, 0, 90 * q);
            Check.same("42: the correction of " + q, x.correction(q), 30000);
            Check.same("42: quarter " + q, x.interest(), due[q]);
        }
    }

    private static void interestRoundsEach() {
        int[] incomes = {2, 4, 6, 10};
        long[] due = {0, 0, 1, 2};
        for (int i = 0; i < incomes.length; i++) {
            CashLedger x = Ledgers.of("top 500;interest 100");
            x.closeQuarter();
            x.addEntry(0, 0, incomes[i], 0, 0);
            Check.same("42: rounded down, " + incomes[i], x.interest(), due[i]);
        }
        CashLedger x = Ledgers.of("top 500;interest 100");
        x.closeQuarter();
        x.closeQuarter();
        x.addEntry(0, 0, 4, 0, 0);
        x.addEntry(0, 0, 4, 0, 90);
        Check.same("42: a correction of 2", x.correction(0), 2);
        Check.same("42: and one of 2", x.correction(1), 2);
        // 0.8 and 0.6
        Check.same("42: each rounded down", x.interest(), 0);
    }

    private static void effectiveRateOfNothing() {
        Edge.refused("43: a profit of 0", () -> earning(0), Edge.ELEMENT, x -> x.effectiveRate());
        Edge.refused("43: a profit of -1", () -> earning(-1), Edge.ELEMENT, x -> x.effectiveRate());
        Edge.refused("43: a great loss", () -> earning(-10000000), Edge.ELEMENT, x -> x.effectiveRate());
        CashLedger x = earning(5);
        x.addEntry(1, 0, 5, 0, 0);
        Check.fails("43: 5 minus 5", Edge.ELEMENT, x::effectiveRate);
    }

    private static void effectiveRateEdges() {
        Check.sameDouble("43: a profit of 1", earning(1).effectiveRate(), 0.0);
        Check.sameDouble("43: a profit of 2", earning(2).effectiveRate(), 50.0);
        Check.sameDouble("43: a profit of 3", earning(3).effectiveRate(), 200.0 / 3.0);
        Check.sameDouble("43: the greatest rate", earning(10000000).effectiveRate(), 90.0);
        CashLedger x = new CashLedger();
        for (int i = 0; i < 60; i++) {
            x.addEntry(0, 0, 10000000, 0, 0);
        }
        Check.sameDouble("43: the greatest profit", x.effectiveRate(), 250730000 * 100.0 / 600000000);
    }

    // ---- Promises 44 and 45

    private static void whatIfRanges() {
        Edge.range("44: kind", Edge::busy, 0, 3, (x, v) -> x.whatIf(v, 1, 0));
        for (int kind = 0; kind <= 3; kind++) {
            int one = kind;
            Edge.range("44: amount of kind " + kind, Edge::busy, 1, 10000000, (x, v) -> x.whatIf(one, v, 0));
            Edge.range("44: day of kind " + kind, Edge::busy, 0, 359, (x, v) -> x.whatIf(one, 1, v));
        }
    }

    private static void whatIfEdges() {
        CashLedger x = Ledgers.of("bracket 1000 0;top 500;room 1 office 30 59;room 1");
        Check.same("44: below the tax", x.whatIf(0, 1001, 0), 0);
        Check.same("44: the least tax", x.whatIf(0, 1002, 359), 1);
        Check.same("44: a loss", x.whatIf(1, 10000000, 0), 0);
        x.addEntry(0, 0, 2000, 0, 0);
        Check.same("44: the tax before", x.yearTax(), 500);
        Check.same("44: all of it", x.whatIf(1, 1000, 0), -500);
        Check.same("44: not all of it", x.whatIf(1, 998, 0), -499);
        Check.same("44: no more than all", x.whatIf(1, 10000000, 359), -500);
        Check.same("44: shared, the day before", x.whatIf(2, 2000, 29), 0);
        Check.same("44: shared, the first day", x.whatIf(2, 2000, 30), -500);
        Check.same("44: shared, the last day", x.whatIf(2, 2000, 59), -500);
        Check.same("44: shared, the day behind", x.whatIf(2, 2000, 60), 0);
        Check.same("44: shared, rounded down", x.whatIf(2, 1, 30), 0);
        Check.same("44: private", x.whatIf(3, 10000000, 30), 0);
        Check.same("44: the greatest income", x.whatIf(0, 10000000, 0), 5000000);
        Check.same("44: shared without rooms", earning(1000).whatIf(2, 1000, 0), 0);
        CashLedger y = earning(-10);
        Check.same("44: out of a loss, 11", y.whatIf(0, 11, 0), 0);
        Check.same("44: out of a loss, 12", y.whatIf(0, 12, 0), 1);
    }

    private static void whatIfOfAFullLedger() {
        CashLedger x = Ledgers.of("top 500");
        for (int i = 0; i < 60; i++) {
            x.addEntry(0, 0, 10000000, 0, 0);
        }
        for (int q = 0; q < 4; q++) {
            x.closeQuarter();
        }
        Check.same("44: a 61st income", x.whatIf(0, 10000000, 0), 5000000);
        Check.same("44: a 61st expense", x.whatIf(1, 10000000, 0), -5000000);
    }

    private static void whatIfChangesNothing() {
        Check.same("44: no change", Picture.of(() -> asked(Edge.busy())), Picture.of(Edge::busy));
        Check.same("44: no change of a full one", Picture.of(() -> asked(Edge.full())), Picture.of(Edge::full));
    }

    private static CashLedger asked(CashLedger x) {
        for (int kind = 0; kind <= 3; kind++) {
            x.whatIf(kind, 10000000, 359);
        }
        x.neededIncome(10000000);
        return x;
    }

    private static void neededIncomeRange() {
        Edge.range("45: net", Edge::busy, 1, 10000000, (x, v) -> x.neededIncome(v));
        Edge.range("45: net of a full ledger", Edge::full, 1, 10000000, (x, v) -> x.neededIncome(v));
    }

    private static void needs(String what, CashLedger x, int net, int due) {
        Check.same("45: " + what + ", " + net, x.neededIncome(net), due);
    }

    private static void neededIncomeEdges() {
        needs("no tax", Ledgers.of("top 0"), 1, 1);
        needs("no tax", Ledgers.of("top 0"), 10000000, 10000000);
        needs("the highest tax", earning(0), 1, 1);
        needs("the highest tax", earning(0), 2, 11);
        needs("the highest tax", earning(0), 3, 21);
        needs("the highest tax", earning(0), 10000000, 99999991);
        needs("the greatest income", earning(1), 10000000, 100000000);
        needs("a profit of 1", earning(1), 1, 1 + 9);
        needs("a profit of 9", earning(9), 1, 2);
        needs("a profit of 10", earning(10), 1, 1);
    }

    private static void neededIncomeIsTheLeast() {
        needs("out of a loss", earning(-5), 5, 5);
        needs("out of a loss", earning(-5), 6, 6);
        needs("out of a loss", earning(-5), 7, 16);
        CashLedger x = Ledgers.of("bracket 100 0;bracket 200 500;top 900");
        needs("up to a limit", x, 100, 100);
        needs("behind it", x, 101, 101);
        needs("behind it", x, 102, 103);
        needs("up to the next limit", x, 150, 199);
        needs("behind the next limit", x, 151, 201);
        needs("behind the next limit", x, 152, 211);
    }

    private static void neededIncomeChangesNothing() {
        Check.same("45: no change", Picture.of(() -> asked(Edge.busy())), Picture.of(Edge::busy));
        CashLedger x = earning(5);
        x.neededIncome(7);
        Check.same("45: the same tax", x.yearTax(), 4);
    }
}
