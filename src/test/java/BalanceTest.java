/** Promises 14 and 46 to 49: the balance day by day. */
public final class BalanceTest {
    public static void main(String[] args) {
        setStart();
        balance();
        prepayments();
        lowestDay();
        daysBelow();
        bestMonth();
        Check.end();
    }

    private static void setStart() {
        CashLedger x = Ledgers.of("start 77");
        Check.same("14: of the text", x.setStart(-10000000), 77);
        Check.same("14: the least", x.setStart(10000000), -10000000);
        Check.same("14: the greatest", x.setStart(10000000), 10000000);
        Check.same("14: changes", x.undoCount(), 3);
        Check.fails("14: too small", IllegalArgumentException.class, () -> x.setStart(-10000001));
        Check.fails("14: too great", IllegalArgumentException.class, () -> x.setStart(10000001));
        Check.same("14: no more changes", x.undoCount(), 3);
        Check.same("14: the balance", x.balance(0), 10000000);
        Check.same("14: no profit", x.profitTo(3), 0);
    }

    private static void balance() {
        CashLedger x = Ledgers.of("start 1000;room 1");
        x.addEntry(0, 0, 100, 0, 10);
        x.addEntry(1, 0, 20, 0, 11);
        x.addEntry(2, 0, 3, 0, 12);
        x.addEntry(3, 0, 4, 0, 359);
        x.addEntry(0, 0, 5555, 5, CashLedger.NONE);
        x.addEntry(0, 0, 6666, 0, 0);
        x.cancel(5);
        x.addAsset(200, 20, 10);
        x.sellAsset(0, 30, 50);
        long[][] due = {{0, 1000}, {9, 1000}, {10, 1100}, {11, 1080}, {12, 1077}, {19, 1077}, {20, 877}, {29, 877},
            {30, 927}, {358, 927}, {359, 923}};
        for (long[] row : due) {
            Check.same("46: " + row[0], x.balance((int) row[0]), row[1]);
        }
        Check.fails("46: -1", IllegalArgumentException.class, () -> x.balance(-1));
        Check.fails("46: 360", IllegalArgumentException.class, () -> x.balance(360));
    }

    private static void prepayments() {
        CashLedger x = Ledgers.of("top 500");
        x.addEntry(0, 0, 1000, 0, 0);
        x.addEntry(0, 0, 2000, 0, 91);
        x.addEntry(0, 0, 4000, 0, 181);
        x.addEntry(0, 0, 8000, 0, 271);
        // the third target is rounded twice: of 9333 and of 3499.5
        for (int q = 0; q < 4; q++) {
            x.closeQuarter();
        }
        long[][] due = {{88, 1000}, {89, 500}, {90, 500}, {178, 2500}, {179, 1500}, {268, 5500}, {269, 3501},
            {358, 11501}, {359, 7500}};
        for (long[] row : due) {
            Check.same("46: prepaid, " + row[0], x.balance((int) row[0]), row[1]);
        }
        x.undo();
        Check.same("46: not closed", x.balance(359), 11501);
        x.cancel(0);
        Check.same("46: the prepayment stays", x.balance(89), -500);
    }

    private static void lowestDay() {
        CashLedger x = new CashLedger();
        Check.same("47: all the same", x.lowestDay(), 0);
        x.addEntry(0, 0, 5, 0, 0);
        Check.same("47: higher from 0 on", x.lowestDay(), 0);
        x.addEntry(1, 0, 6, 0, 1);
        Check.same("47: day 1", x.lowestDay(), 1);
        x.addEntry(1, 0, 4, 0, 100);
        Check.same("47: the first of them", x.lowestDay(), 100);
        x.addEntry(0, 0, 1, 0, 150);
        x.addEntry(1, 0, 1, 0, 359);
        Check.same("47: as low again", x.lowestDay(), 100);
        x.addEntry(1, 0, 1, 0, 359);
        Check.same("47: the last day", x.lowestDay(), 359);
        x.setStart(1000);
        Check.same("47: whatever the start", x.lowestDay(), 359);
    }

    private static void daysBelow() {
        CashLedger x = new CashLedger();
        Check.same("48: not less", x.daysBelow(0), 0);
        Check.same("48: all", x.daysBelow(1), 360);
        x.addEntry(0, 0, 5, 0, 10);
        x.addEntry(1, 0, 9, 0, 359);
        Check.same("48: the last day", x.daysBelow(0), 1);
        Check.same("48: before and the last", x.daysBelow(5), 11);
        Check.same("48: all below 6", x.daysBelow(6), 360);
        Check.same("48: any number", x.daysBelow(Integer.MIN_VALUE), 0);
        Check.same("48: the greatest number", x.daysBelow(Integer.MAX_VALUE), 360);
        x.setStart(-10000000);
        Check.same("48: a negative start", x.daysBelow(-9999995), 11);
    }

    private static void bestMonth() {
        CashLedger x = new CashLedger();
        Check.same("49: nothing came in", x.bestMonth(), 0);
        x.addEntry(1, 0, 500, 0, 5);
        x.addEntry(0, 0, 1, 0, 30);
        Check.same("49: month 1", x.bestMonth(), 1);
        x.addEntry(0, 0, 1, 0, 29);
        Check.same("49: month 0, as good", x.bestMonth(), 0);
        x.addEntry(0, 0, 1, 0, 59);
        Check.same("49: its last day", x.bestMonth(), 1);
        x.addEntry(0, 0, 10, 0, 149);
        Check.same("49: month 4", x.bestMonth(), 4);
        x.addEntry(0, 0, 10, 0, 120);
        x.addEntry(0, 0, 20, 0, 359);
        Check.same("49: the first of two", x.bestMonth(), 4);
        x.addEntry(0, 0, 1, 0, 330);
        Check.same("49: the last month", x.bestMonth(), 11);
        x.addEntry(0, 0, 900, 0, CashLedger.NONE);
        x.addEntry(0, 0, 900, 0, 200);
        x.cancel(9);
        x.addEntry(3, 0, 900, 0, 200);
        Check.same("49: only what counts", x.bestMonth(), 11);
        x.addAsset(100, 60, 5);
        Check.same("49: buying is nothing", x.bestMonth(), 11);
        x.sellAsset(0, 89, 22);
        Check.same("49: a sale", x.bestMonth(), 2);
    }
}
