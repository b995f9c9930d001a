import java.util.function.Consumer;

/** Boundaries of section 10 and promises 15 to 18: the empty, the full and the overflowing history. */
public final class HistoryEdgesTest {
    public static void main(String[] args) {
        nothingToUndo();
        eachChangeIsOne();
        eachChangeWithoutEffectIsOne();
        eachChangeIsUndone();
        whatIsNoChange();
        refusedCallsAreNoChanges();
        atMostEight();
        theNinthIsGone();
        theRingGoesRound();
        undoOneByOneThenGoOn();
        undoAnswersWhatIsLeft();
        undoOfFullThings();
        undoBeforeTheFirst();
        theBufferIsNoPart();
        saveAnswersTheEntries();
        saveIsNoChange();
        saveTakesThePlaceOfAnEarlierOne();
        restoreWithoutACopy();
        restoreAnswersTheEntries();
        restoreKeepsTheCopy();
        restoreClearsTheHistory();
        restoreOfAnEmptyOverAFullLedger();
        restoreOfAFullOverAnEmptyLedger();
        restoreOverOthersInTheSamePlaces();
        nothingIsLeftInTheirPlaces();
        theCopyStandsByItself();
        undoLeavesTheCopy();
        Check.end();
    }

    private static void nothingToUndo() {
        Edge.refused("15: none of a new one", CashLedger::new, Edge.STATE, x -> x.undo());
        Edge.refused("15: none behind load", () -> Ledgers.of("top 5;room 9"), Edge.STATE, x -> x.undo());
        Edge.refused("15: none behind restore", HistoryEdgesTest::restored, Edge.STATE, x -> x.undo());
        Edge.refused("15: none behind the last undo", () -> undone(Edge.busy(), 8), Edge.STATE, x -> x.undo());
        Edge.refused("15: none of one", () -> undone(starts(1), 1), Edge.STATE, x -> x.undo());
    }

    private static CashLedger restored() {
        CashLedger x = Edge.busy();
        x.restore();
        return x;
    }

    private static CashLedger undone(CashLedger x, int steps) {
        for (int i = 0; i < steps; i++) {
            x.undo();
        }
        return x;
    }

    /** The balance at the beginning set to 1, 2, 3 and so on. */
    private static CashLedger starts(int changes) {
        CashLedger x = new CashLedger();
        for (int i = 1; i <= changes; i++) {
            x.setStart(i);
        }
        return x;
    }

    private static void isOne(String what, CashLedger x, Consumer<CashLedger> change) {
        int before = x.undoCount();
        change.accept(x);
        Check.same("10: a change, " + what, x.undoCount(), before + 1);
    }

    private static void eachChangeIsOne() {
        isOne("addEntry", restored(), x -> x.addEntry(0, 0, 1, 0, 0));
        isOne("pay", restored(), x -> x.pay(0, 1));
        isOne("cancel", restored(), x -> x.cancel(0));
        isOne("addRoom", restored(), x -> x.addRoom(1));
        isOne("setOffice", restored(), x -> x.setOffice(0, 7, 8));
        isOne("addAsset", restored(), x -> x.addAsset(1, 0, 1));
        isOne("sellAsset", assetOnly(), x -> x.sellAsset(0, 0, 1));
        isOne("closeQuarter", restored(), x -> x.closeQuarter());
        isOne("setStart", restored(), x -> x.setStart(1));
    }

    private static CashLedger assetOnly() {
        CashLedger x = new CashLedger();
        x.addAsset(5, 0, 1);
        x.save();
        x.restore();
        return x;
    }

    private static void eachChangeWithoutEffectIsOne() {
        isOne("pay on the same day", restored(), x -> x.pay(0, 5));
        isOne("setOffice of the same days", restored(), x -> x.setOffice(0, 0, 44));
        isOne("setOffice of no use again", restored(), x -> x.setOffice(1, Edge.NONE, 7));
        isOne("setStart to the same", restored(), x -> x.setStart(700));
        isOne("closeQuarter of nothing", new CashLedger(), x -> x.closeQuarter());
        CashLedger x = new CashLedger();
        for (int i = 1; i <= 9; i++) {
            x.setStart(0);
            Check.same("16: without effect, " + i, x.undoCount(), Math.min(i, 8));
        }
        for (int left = 7; left >= 0; left--) {
            Check.same("15: without effect, " + left, x.undo(), left);
        }
        Check.fails("15: without effect, no more", Edge.STATE, x::undo);
    }

    private static void isUndone(String what, Consumer<CashLedger> change) {
        CashLedger x = restored();
        String before = Ledgers.picture(restored());
        change.accept(x);
        Check.same("15: nothing left, " + what, x.undo(), 0);
        Check.same("15: as before, " + what, Ledgers.picture(x), before);
        CashLedger y = restored();
        change.accept(y);
        Check.holds("15: something changed, " + what, !Ledgers.picture(y).equals(before));
    }

    private static void eachChangeIsUndone() {
        isUndone("addEntry", x -> x.addEntry(0, 0, 1, 0, 0));
        isUndone("pay", x -> x.pay(0, 1));
        isUndone("pay to open", x -> x.pay(0, Edge.NONE));
        isUndone("cancel", x -> x.cancel(0));
        isUndone("addRoom", x -> x.addRoom(1));
        isUndone("setOffice", x -> x.setOffice(0, 7, 8));
        isUndone("setOffice to no use", x -> x.setOffice(0, Edge.NONE, 8));
        isUndone("addAsset", x -> x.addAsset(1, 0, 1));
        isUndone("closeQuarter", x -> x.closeQuarter());
        isUndone("setStart", x -> x.setStart(1));
        CashLedger x = assetOnly();
        x.sellAsset(0, 9, 1);
        x.undo();
        Check.same("15: as before, sellAsset", Ledgers.picture(x), Ledgers.picture(assetOnly()));
        Check.same("15: not sold", x.asset(0, 4), Edge.NONE);
        Check.same("15: no price", x.asset(0, 5), Edge.NONE);
    }

    private static void isNone(String what, Consumer<CashLedger> call) {
        CashLedger x = starts(3);
        x.save();
        Ledgers.put(x, "top 5x");
        call.accept(x);
        Check.same("10: no change, " + what, x.undoCount(), 3);
        Check.same("15: the latest change, behind " + what, x.undo(), 2);
        Check.same("15: its start, behind " + what, x.balance(0), 2);
    }

    private static void whatIsNoChange() {
        isNone("append", x -> x.append('x', 0, 0, 0, 0));
        isNone("truncate", x -> x.truncate(0));
        isNone("errorPosition", x -> x.errorPosition());
        isNone("save", x -> x.save());
        isNone("count", x -> x.count(0));
        isNone("whatIf", x -> x.whatIf(0, 1, 0));
        isNone("neededIncome", x -> x.neededIncome(1));
        isNone("recomputed", x -> x.recomputed(3));
        isNone("balance", x -> x.balance(0));
        isNone("undoCount", x -> x.undoCount());
    }

    private static CashLedger fullWithEightStarts() {
        CashLedger x = Edge.full();
        for (int i = 1; i <= 8; i++) {
            x.setStart(i);
        }
        return x;
    }

    private static void refusedCallsAreNoChanges() {
        Edge.refused("10: addEntry", HistoryEdgesTest::fullWithEightStarts, Edge.STATE, x -> x.addEntry(0, 0, 1, 0, 0));
        Edge.refused("10: pay", HistoryEdgesTest::fullWithEightStarts, Edge.INDEX, x -> x.pay(60, 0));
        Edge.refused("10: cancel", HistoryEdgesTest::fullWithEightStarts, Edge.INDEX, x -> x.cancel(60));
        Edge.refused("10: addRoom", HistoryEdgesTest::fullWithEightStarts, Edge.STATE, x -> x.addRoom(1));
        Edge.refused("10: setOffice", HistoryEdgesTest::fullWithEightStarts, Edge.ARGUMENT, x -> x.setOffice(5, 1, 0));
        Edge.refused("10: addAsset", HistoryEdgesTest::fullWithEightStarts, Edge.STATE, x -> x.addAsset(1, 0, 1));
        Edge.refused("10: sellAsset", HistoryEdgesTest::fullWithEightStarts, Edge.ARGUMENT, x -> x.sellAsset(1, 29, 0));
        Edge.refused("10: closeQuarter", HistoryEdgesTest::fullWithEightStarts, Edge.STATE, x -> x.closeQuarter());
        Edge.refused("10: setStart", HistoryEdgesTest::fullWithEightStarts, Edge.ARGUMENT, x -> x.setStart(10000001));
        Edge.refused("10: load", HistoryEdgesTest::fullWithEightStarts, Edge.ARGUMENT, x -> x.load());
    }

    private static void atMostEight() {
        for (int changes = 0; changes <= 20; changes++) {
            Check.same("16: of " + changes, starts(changes).undoCount(), Math.min(changes, 8));
        }
        Check.same("16: of 500", starts(500).undoCount(), 8);
    }

    private static void theNinthIsGone() {
        for (int changes = 7; changes <= 10; changes++) {
            int count = Math.min(changes, 8);
            CashLedger x = undone(starts(changes), count);
            Check.same("15: the oldest of " + changes, x.balance(0), changes - count);
            Check.fails("15: one more of " + changes, Edge.STATE, x::undo);
            Check.same("15: still the oldest of " + changes, x.balance(0), changes - count);
            Check.same("16: none of " + changes, x.undoCount(), 0);
        }
    }

    private static void theRingGoesRound() {
        for (int changes = 1; changes <= 40; changes++) {
            CashLedger x = starts(changes);
            for (int left = Math.min(changes, 8) - 1; left >= 0; left--) {
                Check.same("15: left of " + changes, x.undo(), left);
                Check.same("15: the start of " + changes, x.balance(0), changes - Math.min(changes, 8) + left);
            }
        }
    }

    private static void undoOneByOneThenGoOn() {
        for (int back = 0; back <= 8; back++) {
            CashLedger x = undone(starts(11), back);
            Check.same("15: back " + back, x.balance(0), 11 - back);
            x.setStart(100);
            Check.same("16: one more behind " + back, x.undoCount(), Math.min(9 - back, 8));
            x.undo();
            Check.same("15: the one more is undone, " + back, x.balance(0), 11 - back);
            int left = Math.min(8 - back, 7);
            Check.same("16: left behind " + back, x.undoCount(), left);
            undone(x, left);
            Check.same("15: the oldest behind " + back, x.balance(0), 11 - back - left);
            Check.fails("15: no more behind " + back, Edge.STATE, x::undo);
        }
    }

    private static void undoAnswersWhatIsLeft() {
        CashLedger x = starts(9);
        for (int left = 7; left >= 0; left--) {
            Check.same("15: answers " + left, x.undo(), left);
            Check.same("16: the same " + left, x.undoCount(), left);
        }
    }

    private static void undoOfFullThings() {
        CashLedger x = Edge.full();
        x.cancel(0);
        x.cancel(59);
        x.pay(58, Edge.NONE);
        x.sellAsset(11, 359, 5000000);
        x.setOffice(5, 0, 359);
        x.setStart(-10000000);
        undone(x, 6);
        Check.same("16: two of eight are left", x.undoCount(), 2);
        Check.same("15: a full ledger as before", numbersOfAFullOne(x), numbersOfAFullOne(Edge.full()));
    }

    private static String numbersOfAFullOne(CashLedger x) {
        StringBuilder all = new StringBuilder();
        for (int what = 0; what <= 8; what++) {
            all.append(x.count(what)).append(' ');
        }
        for (int kind = 0; kind <= 3; kind++) {
            all.append(x.total(kind, 0, 359)).append(' ').append(x.open(kind)).append(' ');
        }
        for (int quarter = 0; quarter <= 3; quarter++) {
            all.append(x.profit(quarter)).append(' ').append(x.prepayment(quarter)).append(' ');
        }
        for (int i = 0; i < 60; i++) {
            all.append(x.entry(i, 4)).append(' ').append(x.entry(i, 5)).append(' ').append(x.entry(i, 6)).append(' ');
        }
        return all.append(x.asset(11, 4)).append(x.room(5, 1)).append(' ').append(x.balance(359)).toString();
    }

    private static void undoBeforeTheFirst() {
        CashLedger x = new CashLedger();
        x.addEntry(0, 0, 5, 0, 5);
        x.undo();
        Check.same("15: no entry", x.count(0), 0);
        Check.fails("15: not even the first", Edge.INDEX, () -> x.entry(0, 0));
        Check.same("15: its number again", x.addEntry(0, 0, 6, 0, 5), 0);
        CashLedger y = new CashLedger();
        y.closeQuarter();
        y.undo();
        Check.fails("15: no prepayment", Edge.ELEMENT, () -> y.prepayment(0));
        y.addEntry(0, 0, 5, 0, 5);
        Check.same("15: not late any more", y.entry(0, 6), 0);
    }

    private static void theBufferIsNoPart() {
        CashLedger x = starts(2);
        Ledgers.put(x, "top 5");
        x.undo();
        Check.same("10: undo keeps the text", x.append(0, 0, 0, 0, 0), 5);
        x.save();
        x.append('x', 0, 0, 0, 0);
        x.restore();
        Check.same("10: restore keeps the text", x.append(0, 0, 0, 0, 0), 6);
        Check.same("10: restore keeps its bytes", x.errorPosition(), 5);
        x.truncate(0);
        x.restore();
        Check.same("10: restore keeps an empty buffer", x.append(0, 0, 0, 0, 0), 0);
    }

    private static void saveAnswersTheEntries() {
        Check.same("17: none", new CashLedger().save(), 0);
        Check.same("17: six", Edge.busy().save(), 6);
        Check.same("17: sixty", Edge.full().save(), 60);
        CashLedger x = Edge.busy();
        x.cancel(0);
        Check.same("17: a cancelled one, too", x.save(), 6);
    }

    private static void saveIsNoChange() {
        for (int changes : new int[] {0, 1, 8, 9}) {
            CashLedger x = starts(changes);
            x.save();
            int count = Math.min(changes, 8);
            Check.same("17: no change, " + changes, x.undoCount(), count);
            undone(x, count);
            Check.same("17: undo goes on, " + changes, x.balance(0), changes - count);
            Check.fails("17: no more, " + changes, Edge.STATE, x::undo);
        }
    }

    private static void saveTakesThePlaceOfAnEarlierOne() {
        CashLedger x = starts(1);
        x.save();
        x.setStart(2);
        x.save();
        x.setStart(3);
        x.restore();
        Check.same("17: the later copy", x.balance(0), 2);
        x.restore();
        Check.same("17: only one copy", x.balance(0), 2);
        CashLedger y = Edge.full();
        Ledgers.of("top 5").save();
        y.restore();
        Check.same("17: of its own object", y.count(0), 60);
    }

    private static void restoreWithoutACopy() {
        Edge.refused("18: a new one", CashLedger::new, Edge.STATE, x -> x.restore());
        Edge.refused("18: with changes", () -> starts(9), Edge.STATE, x -> x.restore());
        Edge.refused("18: behind load", () -> loaded(Edge.full()), Edge.STATE, x -> x.restore());
    }

    private static CashLedger loaded(CashLedger x) {
        x.truncate(0);
        Ledgers.put(x, "top 5");
        x.load();
        x.setStart(5);
        return x;
    }

    private static void restoreAnswersTheEntries() {
        CashLedger x = new CashLedger();
        x.save();
        x.addEntry(0, 0, 1, 0, 0);
        Check.same("18: none", x.restore(), 0);
        Check.same("18: three", Edge.busy().restore(), 3);
        Check.same("18: sixty", Edge.full().restore(), 60);
    }

    private static void restoreKeepsTheCopy() {
        CashLedger x = Edge.busy();
        for (int i = 0; i < 3; i++) {
            Check.same("18: the copy is kept, " + i, x.restore(), 3);
            x.addEntry(0, 0, 1, 0, 0);
            x.pay(0, 9);
            x.cancel(1);
        }
        x.restore();
        Check.same("18: as it was saved", x.entry(0, 4), 5);
        Check.same("18: not cancelled", x.entry(1, 5), 0);
    }

    private static void restoreClearsTheHistory() {
        for (int changes : new int[] {0, 1, 8, 9}) {
            CashLedger x = starts(changes);
            x.save();
            x.restore();
            Check.same("18: no history of " + changes, x.undoCount(), 0);
            Check.fails("18: nothing to undo of " + changes, Edge.STATE, x::undo);
            x.setStart(50);
            Check.same("18: from the beginning, " + changes, x.undoCount(), 1);
            x.undo();
            Check.same("18: back to the copy, " + changes, x.balance(0), changes);
        }
    }

    private static void restoreOfAnEmptyOverAFullLedger() {
        CashLedger x = new CashLedger();
        x.save();
        for (int i = 0; i < 60; i++) {
            x.addEntry(0, 0, 1, 0, i);
        }
        for (int i = 0; i < 12; i++) {
            x.addAsset(5, 0, 1);
        }
        for (int i = 0; i < 6; i++) {
            x.addRoom(5);
        }
        for (int i = 0; i < 4; i++) {
            x.closeQuarter();
        }
        x.setStart(9);
        Check.same("18: no entry", x.restore(), 0);
        for (int what = 0; what <= 7; what++) {
            Check.same("18: emptied, count(" + what + ")", x.count(what), 0);
        }
        Check.same("18: the start", x.balance(359), 0);
        Check.same("18: room for all again", x.addEntry(0, 0, 1, 0, 0), 0);
    }

    private static void restoreOfAFullOverAnEmptyLedger() {
        CashLedger x = fullWithEightStarts();
        x.save();
        for (int i = 0; i < 8; i++) {
            x.undo();
        }
        x.cancel(0);
        x.restore();
        Check.same("18: all entries", x.count(0), 60);
        Check.same("18: none cancelled", x.count(2), 0);
        Check.same("18: the balance of the copy", x.balance(0), 8 + 1000 - 70000);
        Edge.refused("18: as full as before", Edge::full, Edge.STATE, y -> y.addEntry(0, 0, 1, 0, 0));
        Check.fails("18: no place", Edge.STATE, () -> x.addEntry(0, 0, 1, 0, 0));
    }

    /** One thing of each sort, in the first places, made by seven changes; all of them are undone then. */
    private static CashLedger savedThenOthers() {
        CashLedger x = Ledgers.of("top 500;assets 10 20");
        x.addEntry(0, 1, 1000, 3, 4);
        x.closeQuarter();
        x.addEntry(1, 2, 8, 5, 6);
        x.addAsset(1200, 20, 10);
        x.sellAsset(0, 100, 9);
        x.addRoom(4);
        x.setOffice(0, 1, 2);
        x.save();
        undone(x, 7);
        x.addEntry(3, 7, 5, 6, 8);
        x.addEntry(2, 8, 7, 8, Edge.NONE);
        x.cancel(1);
        x.closeQuarter();
        x.addAsset(5, 6, 7);
        x.addRoom(99);
        x.setOffice(0, 50, 70);
        return x;
    }

    private static void restoreOverOthersInTheSamePlaces() {
        CashLedger x = savedThenOthers();
        Check.same("18: both entries", x.restore(), 2);
        int[][] entries = {{0, 1, 1000, 3, 4, 0, 0}, {1, 2, 8, 5, 6, 0, 1}};
        for (int what = 0; what <= 6; what++) {
            Check.same("18: entry 0, " + what, x.entry(0, what), entries[0][what]);
            Check.same("18: entry 1, " + what, x.entry(1, what), entries[1][what]);
        }
        int[] asset = {1200, 20, 10, 2, 100, 9};
        for (int what = 0; what <= 5; what++) {
            Check.same("18: the asset, " + what, x.asset(0, what), asset[what]);
        }
        int[] room = {4, 1, 2};
        for (int what = 0; what <= 2; what++) {
            Check.same("18: the room, " + what, x.room(0, what), room[what]);
        }
        Check.same("18: the prepayment", x.prepayment(0), 500);
    }

    private static void nothingIsLeftInTheirPlaces() {
        CashLedger x = new CashLedger();
        x.save();
        x.closeQuarter();
        x.addEntry(0, 0, 1, 0, 0);
        x.cancel(0);
        x.addAsset(1, 0, 1);
        x.sellAsset(0, 0, 7);
        x.addRoom(1);
        x.setOffice(0, 0, 359);
        x.restore();
        x.addEntry(0, 0, 1, 0, 0);
        x.addAsset(1, 0, 1);
        x.addRoom(1);
        Check.same("18: a new one is not cancelled", x.entry(0, 5), 0);
        Check.same("18: a new one is not late", x.entry(0, 6), 0);
        Check.same("18: a new one is not sold", x.asset(0, 4), Edge.NONE);
        Check.same("18: a new one has no price of sale", x.asset(0, 5), Edge.NONE);
        Check.same("18: a new one is no office", x.room(0, 1), Edge.NONE);
    }

    private static void theCopyStandsByItself() {
        CashLedger x = Edge.busy();
        x.save();
        String saved = Ledgers.picture(x);
        x.pay(0, 77);
        x.cancel(1);
        x.setOffice(0, 1, 2);
        x.setOffice(1, 3, 4);
        x.sellAsset(0, 300, 8);
        x.closeQuarter();
        x.setStart(-5);
        x.restore();
        Check.same("18: no change reached the copy", Ledgers.picture(x), saved.substring(0, saved.length() - 1) + "0");
    }

    private static void undoLeavesTheCopy() {
        CashLedger x = starts(3);
        x.save();
        undone(x, 3);
        Check.same("15: undone", x.balance(0), 0);
        x.restore();
        Check.same("18: the copy was not undone", x.balance(0), 3);
    }
}
