import java.util.NoSuchElementException;

/** Promises 6 to 8 and 19 to 25: entries, and the numbers of all things. */
public final class EntriesTest {
    public static void main(String[] args) {
        addEntry();
        sixtyEntries();
        pay();
        cancel();
        late();
        countOfTheFirst();
        count();
        entry();
        deductible();
        total();
        byCategory();
        open();
        oldestOpen();
        Check.end();
    }

    private static void refused(int kind, int category, int amount, int invoiced, int paid) {
        CashLedger x = new CashLedger();
        Check.fails("6: " + kind + " " + category + " " + amount + " " + invoiced + " " + paid,
                IllegalArgumentException.class, () -> x.addEntry(kind, category, amount, invoiced, paid));
        Check.same("6: no entry", x.count(0), 0);
        Check.same("6: no change", x.undoCount(), 0);
    }

    private static void addEntry() {
        CashLedger x = new CashLedger();
        Check.same("6: least", x.addEntry(0, 0, 1, 0, 0), 0);
        Check.same("6: most", x.addEntry(3, 9, 10000000, 359, 359), 1);
        Check.same("6: open", x.addEntry(1, 5, 5, 5, CashLedger.NONE), 2);
        Check.same("6: paid before the invoice", x.addEntry(2, 5, 5, 300, 2), 3);
        Check.same("6: count", x.count(0), 4);
        refused(-1, 0, 1, 0, 0);
        refused(4, 0, 1, 0, 0);
        refused(0, -1, 1, 0, 0);
        refused(0, 10, 1, 0, 0);
        refused(0, 0, 0, 0, 0);
        refused(0, 0, -1, 0, 0);
        refused(0, 0, 10000001, 0, 0);
        refused(0, 0, 1, -1, 0);
        refused(0, 0, 1, 360, 0);
        refused(0, 0, 1, 0, -2);
        refused(0, 0, 1, 0, 360);
        refused(Integer.MIN_VALUE, Integer.MAX_VALUE, Integer.MIN_VALUE, Integer.MAX_VALUE, Integer.MIN_VALUE);
    }

    private static void sixtyEntries() {
        CashLedger x = new CashLedger();
        for (int i = 0; i < 60; i++) {
            Check.same("6: number", x.addEntry(0, i % 10, i + 1, i, i), i);
        }
        x.cancel(59);
        Check.fails("6: 60 entries", IllegalStateException.class, () -> x.addEntry(0, 0, 1, 0, 0));
        Check.fails("6: arguments first", IllegalArgumentException.class, () -> x.addEntry(4, 0, 1, 0, 0));
        Check.same("6: still 60", x.count(0), 60);
        Check.same("6: the last amount", x.entry(59, 2), 60);
        Check.same("6: the sum", x.total(0, 0, 359), 59 * 60 / 2);
        Check.same("19: open of 60", x.count(1), 0);
        Check.same("19: cancelled of 60", x.count(2), 1);
        Check.same("19: late of 60", x.count(3), 0);
        Check.same("21: of the last", x.deductible(59), 0);
        Check.same("23: of 60", x.byCategory(0, true), 1 + 11 + 21 + 31 + 41 + 51);
        Check.same("23: no deductible parts of 60", x.byCategory(0, false), 0);
        Check.same("24: of 60", x.open(0), 0);
        Check.fails("25: of 60", NoSuchElementException.class, x::oldestOpen);
        Check.same("33: of 60", x.profit(0), 59 * 60 / 2);
        Check.same("46: of 60", x.balance(359), 59 * 60 / 2);
    }

    private static void pay() {
        CashLedger x = new CashLedger();
        x.addEntry(0, 0, 100, 50, CashLedger.NONE);
        Check.same("7: was open", x.pay(0, 0), -1);
        Check.same("7: was 0", x.pay(0, 359), 0);
        Check.same("7: was 359", x.pay(0, 359), 359);
        Check.same("7: the day", x.entry(0, 4), 359);
        Check.same("7: opened again", x.pay(0, CashLedger.NONE), 359);
        Check.same("7: is open", x.entry(0, 4), -1);
        Check.same("7: does not count", x.total(0, 0, 359), 0);
        Check.same("7: every call is a change", x.undoCount(), 5);
        Check.fails("7: entry 1", IndexOutOfBoundsException.class, () -> x.pay(1, 400));
        Check.fails("7: entry -1", IndexOutOfBoundsException.class, () -> x.pay(-1, 0));
        Check.fails("7: day 360", IllegalArgumentException.class, () -> x.pay(0, 360));
        Check.fails("7: day -2", IllegalArgumentException.class, () -> x.pay(0, -2));
        x.cancel(0);
        Check.fails("7: cancelled", IllegalStateException.class, () -> x.pay(0, 5));
        Check.fails("7: to open it, cancelled", IllegalStateException.class, () -> x.pay(0, CashLedger.NONE));
        Check.fails("7: the day first", IllegalArgumentException.class, () -> x.pay(0, 360));
        Check.same("7: still open", x.entry(0, 4), -1);
        Check.same("7: no more changes", x.undoCount(), 6);
    }

    private static void cancel() {
        CashLedger x = new CashLedger();
        x.addEntry(0, 0, 100, 50, 60);
        x.addEntry(0, 0, 7, 50, CashLedger.NONE);
        Check.fails("8: entry 2", IndexOutOfBoundsException.class, () -> x.cancel(2));
        Check.fails("8: entry -1", IndexOutOfBoundsException.class, () -> x.cancel(-1));
        Check.same("8: its amount", x.cancel(0), 100);
        Check.same("8: of an open one", x.cancel(1), 7);
        Check.fails("8: again", IllegalStateException.class, () -> x.cancel(0));
        Check.same("8: it stays", x.count(0), 2);
        Check.same("8: its day stays", x.entry(0, 4), 60);
        Check.same("8: does not count", x.profit(0), 0);
        Check.same("8: nor in the balance", x.balance(359), 0);
        Check.same("8: changes", x.undoCount(), 4);
    }

    private static void late() {
        CashLedger x = new CashLedger();
        x.addEntry(0, 0, 1, 0, 0);
        x.closeQuarter();
        x.addEntry(0, 0, 1, 0, 89);
        x.addEntry(0, 0, 1, 0, 90);
        x.addEntry(0, 0, 1, 0, CashLedger.NONE);
        x.pay(3, 5);
        x.pay(1, 300);
        x.pay(2, 5);
        int[] late = {0, 1, 0, 0};
        for (int i = 0; i < 4; i++) {
            Check.same("20: late " + i, x.entry(i, 6), late[i]);
        }
        Check.same("19: late", x.count(3), 1);
        x.cancel(1);
        Check.same("19: late and cancelled", x.count(3), 1);
        x.closeQuarter();
        Check.same("19: closing makes none late", x.count(3), 1);
        x.closeQuarter();
        x.closeQuarter();
        x.addEntry(3, 0, 1, 0, 359);
        Check.same("20: in the last quarter", x.entry(4, 6), 1);
    }

    private static void countOfTheFirst() {
        CashLedger x = new CashLedger();
        x.closeQuarter();
        x.addEntry(0, 0, 1, 0, 5);
        x.cancel(0);
        x.addAsset(5, 0, 1);
        x.sellAsset(0, 5, 0);
        Check.same("19: the first is cancelled", x.count(2), 1);
        Check.same("19: the first is late", x.count(3), 1);
        Check.same("19: the first is sold", x.count(6), 1);
        x.undo();
        x.undo();
        x.undo();
        x.undo();
        x.addEntry(1, 4, 1, 0, 6);
        Check.same("20: in the place of a cancelled one", x.entry(0, 5), 0);
        Check.same("23: the first", x.byCategory(4, false), 1);
    }

    private static void count() {
        CashLedger x = Ledgers.of("bracket 5 5;bracket 6 6;bracket 7 7;room 3");
        x.addEntry(0, 0, 1, 0, CashLedger.NONE);
        x.addEntry(1, 0, 1, 0, CashLedger.NONE);
        x.addEntry(2, 0, 1, 0, 7);
        x.addEntry(3, 0, 1, 0, 8);
        x.cancel(1);
        x.cancel(3);
        x.addRoom(4);
        x.addAsset(5, 0, 1);
        x.addAsset(5, 0, 1);
        x.addAsset(5, 0, 1);
        x.sellAsset(2, 5, 0);
        x.closeQuarter();
        x.closeQuarter();
        x.addEntry(0, 0, 1, 0, 179);
        int[] due = {5, 1, 2, 1, 2, 3, 1, 2, 3};
        for (int what = 0; what <= 8; what++) {
            Check.same("19: count(" + what + ")", x.count(what), due[what]);
        }
        Check.fails("19: -1", IllegalArgumentException.class, () -> x.count(-1));
        Check.fails("19: 9", IllegalArgumentException.class, () -> x.count(9));
    }

    private static void entry() {
        CashLedger x = new CashLedger();
        x.addEntry(2, 7, 12345, 100, 200);
        x.addEntry(3, 1, 6, 101, CashLedger.NONE);
        x.cancel(1);
        int[] first = {2, 7, 12345, 100, 200, 0, 0};
        int[] second = {3, 1, 6, 101, -1, 1, 0};
        for (int what = 0; what <= 6; what++) {
            Check.same("20: 0, " + what, x.entry(0, what), first[what]);
            Check.same("20: 1, " + what, x.entry(1, what), second[what]);
        }
        Check.fails("20: entry 2", IndexOutOfBoundsException.class, () -> x.entry(2, 9));
        Check.fails("20: entry -1", IndexOutOfBoundsException.class, () -> x.entry(-1, 0));
        Check.fails("20: what 7", IllegalArgumentException.class, () -> x.entry(0, 7));
        Check.fails("20: what -1", IllegalArgumentException.class, () -> x.entry(0, -1));
    }

    private static void deductible() {
        CashLedger x = Ledgers.of("room 1 office 0 9;room 2 office 40 359");
        x.addEntry(0, 0, 1000, 0, 5);
        x.addEntry(1, 0, 1000, 0, 5);
        x.addEntry(2, 0, 1000, 0, 5);
        x.addEntry(3, 0, 1000, 0, 5);
        x.addEntry(2, 0, 10000000, 0, 30);
        x.addEntry(2, 0, 8, 0, 359);
        x.addEntry(1, 0, 9, 0, CashLedger.NONE);
        x.addEntry(1, 0, 9, 0, 7);
        x.cancel(7);
        int[] due = {0, 1000, 111, 0, 4444444, 5, 0, 0};
        for (int i = 0; i < due.length; i++) {
            Check.same("21: " + i, x.deductible(i), due[i]);
        }
        x.pay(2, 35);
        Check.same("21: the month in which it is paid", x.deductible(2), 444);
        x.cancel(2);
        Check.same("21: cancelled", x.deductible(2), 0);
        Check.fails("21: entry 8", IndexOutOfBoundsException.class, () -> x.deductible(8));
        Check.fails("21: entry -1", IndexOutOfBoundsException.class, () -> x.deductible(-1));
        CashLedger none = new CashLedger();
        none.addEntry(2, 0, 1000, 0, 5);
        Check.same("21: without rooms", none.deductible(0), 0);
    }

    private static void total() {
        CashLedger x = new CashLedger();
        x.addEntry(0, 0, 1, 0, 0);
        x.addEntry(0, 0, 10, 0, 359);
        x.addEntry(0, 0, 100, 0, 180);
        x.addEntry(2, 0, 1000, 0, 180);
        x.addEntry(3, 0, 10000, 0, 180);
        x.addEntry(0, 0, 100000, 0, CashLedger.NONE);
        x.addEntry(0, 0, 1000000, 0, 180);
        x.cancel(6);
        Check.same("22: all incomes", x.total(0, 0, 359), 111);
        Check.same("22: a day", x.total(0, 180, 180), 100);
        Check.same("22: up to 179", x.total(0, 0, 179), 1);
        Check.same("22: from 181", x.total(0, 181, 359), 10);
        Check.same("22: whole amounts of kind 2", x.total(2, 0, 359), 1000);
        Check.same("22: kind 3", x.total(3, 0, 359), 10000);
        Check.same("22: kind 1", x.total(1, 0, 359), 0);
        Check.fails("22: kind -1", IllegalArgumentException.class, () -> x.total(-1, 0, 0));
        Check.fails("22: kind 4", IllegalArgumentException.class, () -> x.total(4, 0, 0));
        Check.fails("22: from -1", IllegalArgumentException.class, () -> x.total(0, -1, 0));
        Check.fails("22: from 360", IllegalArgumentException.class, () -> x.total(0, 360, 360));
        Check.fails("22: to 360", IllegalArgumentException.class, () -> x.total(0, 0, 360));
        Check.fails("22: to before from", IllegalArgumentException.class, () -> x.total(0, 5, 4));
    }

    private static void byCategory() {
        CashLedger x = Ledgers.of("room 1 office 0 29;room 1");
        x.addEntry(0, 3, 100, 0, 5);
        x.addEntry(0, 3, 50, 0, 300);
        x.addEntry(0, 4, 7, 0, 5);
        x.addEntry(0, 3, 1000, 0, CashLedger.NONE);
        x.addEntry(0, 3, 2000, 0, 5);
        x.cancel(4);
        x.addEntry(1, 3, 20, 0, 5);
        x.addEntry(2, 3, 9, 0, 5);
        x.addEntry(2, 3, 9, 0, 30);
        x.addEntry(3, 3, 5000, 0, 5);
        x.addEntry(1, 3, 10000, 0, CashLedger.NONE);
        x.addEntry(1, 9, 1, 0, 5);
        Check.same("23: incomes", x.byCategory(3, true), 150);
        Check.same("23: deductible", x.byCategory(3, false), 24);
        Check.same("23: of category 4", x.byCategory(4, true), 7);
        Check.same("23: none", x.byCategory(4, false), 0);
        Check.same("23: category 9", x.byCategory(9, false), 1);
        Check.same("23: category 0", x.byCategory(0, true), 0);
        Check.fails("23: -1", IllegalArgumentException.class, () -> x.byCategory(-1, true));
        Check.fails("23: 10", IllegalArgumentException.class, () -> x.byCategory(10, false));
    }

    private static void open() {
        CashLedger x = new CashLedger();
        x.addEntry(0, 0, 1, 0, CashLedger.NONE);
        x.addEntry(0, 0, 10, 0, CashLedger.NONE);
        x.addEntry(0, 0, 100, 0, 5);
        x.addEntry(3, 0, 1000, 0, CashLedger.NONE);
        x.addEntry(0, 0, 10000, 0, CashLedger.NONE);
        x.cancel(4);
        Check.same("24: incomes", x.open(0), 11);
        Check.same("24: expenses", x.open(1), 0);
        Check.same("24: private", x.open(3), 1000);
        x.pay(0, 9);
        x.pay(2, CashLedger.NONE);
        Check.same("24: paid and opened", x.open(0), 110);
        Check.fails("24: -1", IllegalArgumentException.class, () -> x.open(-1));
        Check.fails("24: 4", IllegalArgumentException.class, () -> x.open(4));
    }

    private static void oldestOpen() {
        CashLedger x = new CashLedger();
        Check.fails("25: no entry", NoSuchElementException.class, x::oldestOpen);
        x.addEntry(0, 0, 1, 0, 5);
        Check.fails("25: none open", NoSuchElementException.class, x::oldestOpen);
        x.addEntry(1, 0, 1, 30, CashLedger.NONE);
        x.addEntry(2, 0, 1, 20, CashLedger.NONE);
        x.addEntry(3, 0, 1, 20, CashLedger.NONE);
        x.addEntry(0, 0, 1, 10, CashLedger.NONE);
        Check.same("25: the earliest", x.oldestOpen(), 4);
        x.cancel(4);
        Check.same("25: the lowest number", x.oldestOpen(), 2);
        x.pay(2, 1);
        Check.same("25: the next", x.oldestOpen(), 3);
        x.pay(3, 1);
        Check.same("25: the last", x.oldestOpen(), 1);
        x.pay(0, CashLedger.NONE);
        Check.same("25: opened again", x.oldestOpen(), 0);
    }
}
