import java.util.function.Consumer;

/** Promises 15 to 18 and section 10: undo, save and restore. */
public final class HistoryTest {
    public static void main(String[] args) {
        undoEach();
        undoTheLatestEight();
        undoAndGoOn();
        noEffect();
        nothingChangesWhenThrown();
        save();
        restore();
        restoreOverOthers();
        buffer();
        Check.end();
    }

    /** A ledger with something of everything, and no history. */
    private static CashLedger rich() {
        CashLedger x = Ledgers.of("start 5;room 3 office 0 59;room 4;top 500");
        x.addEntry(0, 1, 100000, 0, 5);
        x.addEntry(2, 2, 70, 0, 35);
        x.addEntry(1, 2, 70, 0, CashLedger.NONE);
        x.addAsset(300000, 0, 10);
        x.addAsset(90000, 0, 10);
        x.closeQuarter();
        x.save();
        x.restore();
        return x;
    }

    private static void undone(String what, Consumer<CashLedger> change) {
        CashLedger x = rich();
        String before = Ledgers.picture(x);
        change.accept(x);
        Check.same("16: behind " + what, x.undoCount(), 1);
        Check.holds("15: changed by " + what, !Ledgers.picture(x).equals(before));
        Check.same("15: undo " + what, x.undo(), 0);
        Check.same("15: as before " + what, Ledgers.picture(x), before);
    }

    private static void undoEach() {
        CashLedger x = rich();
        Check.same("16: none", x.undoCount(), 0);
        Check.fails("15: none", IllegalStateException.class, x::undo);
        undone("addEntry", y -> y.addEntry(0, 1, 5, 0, 0));
        undone("pay", y -> y.pay(1, 3));
        undone("cancel", y -> y.cancel(0));
        undone("addRoom", y -> y.addRoom(9));
        undone("setOffice", y -> y.setOffice(1, 5, 6));
        undone("addAsset", y -> y.addAsset(8, 5, 6));
        undone("sellAsset", y -> y.sellAsset(0, 5, 6));
        undone("closeQuarter", y -> y.closeQuarter());
        undone("setStart", y -> y.setStart(8));
        x.addEntry(0, 1, 5, 0, 0);
        x.undo();
        x.addEntry(3, 2, 6, 7, CashLedger.NONE);
        int[] due = {3, 2, 6, 7, -1, 0, 0};
        for (int what = 0; what <= 6; what++) {
            Check.same("15: over what was undone", x.entry(3, what), due[what]);
        }
    }

    private static void undoTheLatestEight() {
        CashLedger x = new CashLedger();
        for (int i = 1; i <= 20; i++) {
            x.setStart(i);
            Check.same("16: " + i, x.undoCount(), Math.min(i, 8));
        }
        for (int i = 7; i >= 0; i--) {
            Check.same("15: left", x.undo(), i);
            Check.same("15: the start", x.balance(0), 12 + i);
            Check.same("16: left", x.undoCount(), i);
        }
        Check.fails("15: the ninth", IllegalStateException.class, x::undo);
        Check.same("15: nothing changed", x.balance(0), 12);
    }

    private static void undoAndGoOn() {
        CashLedger x = new CashLedger();
        for (int i = 1; i <= 9; i++) {
            x.setStart(i);
        }
        x.undo();
        x.undo();
        Check.same("15: back to 7", x.balance(0), 7);
        Check.same("16: six", x.undoCount(), 6);
        x.setStart(100);
        x.setStart(200);
        x.setStart(300);
        Check.same("16: eight again", x.undoCount(), 8);
        int[] due = {200, 100, 7, 6, 5, 4, 3, 2};
        for (int start : due) {
            x.undo();
            Check.same("15: back to " + start, x.balance(0), start);
        }
        Check.fails("15: no more", IllegalStateException.class, x::undo);
    }

    private static void noEffect() {
        CashLedger x = rich();
        x.setStart(5);
        x.pay(0, 5);
        x.setOffice(1, CashLedger.NONE, 0);
        Check.same("16: changes without effect", x.undoCount(), 3);
        Check.same("15: of no effect", x.undo(), 2);
    }

    private static void nothingChangesWhenThrown() {
        CashLedger x = rich();
        x.setStart(6);
        x.cancel(1);
        String before = Ledgers.picture(x);
        Check.fails("10: addEntry", IllegalArgumentException.class, () -> x.addEntry(0, 0, 0, 0, 0));
        Check.fails("10: pay", IllegalStateException.class, () -> x.pay(1, 5));
        Check.fails("10: cancel", IllegalStateException.class, () -> x.cancel(1));
        Check.fails("10: addRoom", IllegalArgumentException.class, () -> x.addRoom(-5));
        Check.fails("10: setOffice", IllegalArgumentException.class, () -> x.setOffice(0, 5, 4));
        Check.fails("10: addAsset", IllegalArgumentException.class, () -> x.addAsset(1, 0, 0));
        Check.fails("10: sellAsset", IllegalArgumentException.class, () -> x.sellAsset(0, 360, 0));
        Check.fails("10: setStart", IllegalArgumentException.class, () -> x.setStart(-10000001));
        Check.fails("10: load", IllegalArgumentException.class, x::load);
        Check.same("10: nothing changed", Ledgers.picture(x), before);
    }

    private static void save() {
        CashLedger x = rich();
        x.setStart(6);
        x.undo();
        x.setStart(7);
        Check.same("17: entries", x.save(), 3);
        Check.same("17: is no change", x.undoCount(), 1);
        String saved = Ledgers.picture(x);
        x.addEntry(0, 0, 5, 0, 0);
        x.cancel(0);
        x.addRoom(5);
        x.setOffice(0, 1, 2);
        x.sellAsset(0, 7, 8);
        x.addAsset(100, 0, 1);
        x.closeQuarter();
        Check.same("18: entries", x.restore(), 3);
        Check.same("18: as saved", Ledgers.picture(x), saved.substring(0, saved.length() - 1) + "0");
        x.setStart(8);
        Check.same("17: another copy", x.save(), 3);
        x.setStart(9);
        x.restore();
        Check.same("17: in place of the earlier one", x.balance(0) - rich().balance(0), 3);
        Check.same("17: of none", new CashLedger().save(), 0);
    }

    private static void restore() {
        CashLedger x = new CashLedger();
        x.setStart(1);
        Check.fails("18: no copy", IllegalStateException.class, x::restore);
        Check.same("18: nothing changed", x.undoCount(), 1);
        x.save();
        Check.same("18: entries", x.restore(), 0);
        Check.same("18: no history", x.undoCount(), 0);
        Check.fails("18: nothing to undo", IllegalStateException.class, x::undo);
        x.setStart(2);
        x.restore();
        x.setStart(3);
        x.undo();
        Check.same("18: the copy is kept", x.balance(0), 1);
        x.setStart(3);
        x.restore();
        Check.same("18: again", x.balance(0), 1);
        Ledgers.put(x, "start 9");
        x.load();
        Check.fails("18: load drops the copy", IllegalStateException.class, x::restore);
    }

    /** What is made after the copy stands in the same places, and must give way as a whole. */
    private static void restoreOverOthers() {
        CashLedger x = Ledgers.of("top 500");
        x.addEntry(0, 1, 1000, 3, 4);
        x.closeQuarter();
        x.addEntry(0, 1, 8, 3, 4);
        x.addAsset(300000, 20, 10);
        x.addRoom(4);
        x.setOffice(0, 1, 2);
        x.save();
        String saved = Ledgers.picture(x);
        for (int i = 0; i < 6; i++) {
            x.undo();
        }
        Check.same("15: all undone", x.count(0) + x.count(4) + x.count(5) + x.count(7), 0);
        x.addEntry(2, 7, 5, 6, 8);
        x.addEntry(3, 8, 7, 8, 9);
        x.cancel(1);
        x.closeQuarter();
        x.addAsset(5, 6, 7);
        x.sellAsset(0, 8, 9);
        x.addRoom(99);
        x.restore();
        Check.same("18: as saved", Ledgers.picture(x), saved.substring(0, saved.length() - 1) + "0");
        Check.same("18: the prepayment", x.prepayment(0), 500);
    }

    private static void buffer() {
        CashLedger x = new CashLedger();
        x.setStart(1);
        Ledgers.put(x, "top 5");
        x.undo();
        Check.same("10: undo keeps the buffer", x.truncate(5), 5);
        Check.same("10: a call of the buffer is no change", x.undoCount(), 0);
        x.save();
        x.truncate(3);
        x.restore();
        Check.same("10: restore keeps the buffer", x.append(0, 0, 0, 0, 0), 3);
    }
}
