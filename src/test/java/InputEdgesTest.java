/** Boundaries of promises 1 to 3 and 5, and of an object's 512 calls: the empty and the full buffer. */
public final class InputEdgesTest {
    public static void main(String[] args) {
        theLastCallAnswers();
        theLastChangeAnswers();
        aNewObjectHasNothing();
        aNewObjectRefusesEveryNumber();
        aNewObjectIsAsByItsText();
        everyByteHasItsPlace();
        zerosDoNotCount();
        everyOtherByteCounts();
        fourHundredBytesFit();
        oneByteTooMany();
        twentyBytesTooMany();
        truncateOfNothing();
        truncateOfAFullBuffer();
        truncateKeepsTheFirstBytes();
        loadOfNothing();
        loadAnswersTheRooms();
        loadOfAFullBuffer();
        loadEmptiesAFullLedger();
        loadEmptiesTheBuffer();
        loadDropsTheCopy();
        loadTakesNothingOver();
        aRefusedLoadTakesNothing();
        loadOfTheGreatestNumbers();
        loadOfTheLeastNumbers();
        Check.end();
    }

    private static void theLastCallAnswers() {
        CashLedger x = new CashLedger();
        for (int i = 1; i <= 255; i++) {
            x.append('x', 0, 0, 0, 0);
            x.truncate(0);
        }
        x.addEntry(0, 0, 7, 0, 0);
        Check.same("call 512", x.balance(359), 7);
    }

    private static void theLastChangeAnswers() {
        CashLedger x = new CashLedger();
        for (int i = 1; i <= 509; i++) {
            x.setStart(i);
        }
        x.undo();
        Check.same("call 511", x.undoCount(), 7);
        Check.same("call 512", x.setStart(0), 508);
    }

    // ---- Promise 1

    private static void aNewObjectHasNothing() {
        CashLedger x = new CashLedger();
        for (int what = 0; what <= 7; what++) {
            Check.same("1: empty, count(" + what + ")", x.count(what), 0);
        }
        Check.same("1: two brackets", x.count(8), 2);
        Check.same("1: an empty buffer", x.append(0, 0, 0, 0, 0), 0);
        Check.same("1: no text", x.errorPosition(), 0);
        Check.same("1: no undo", x.undoCount(), 0);
        Check.same("1: start 0, first day", x.balance(0), 0);
        Check.same("1: start 0, last day", x.balance(359), 0);
        Check.same("1: no interest", x.interest(), 0);
        Check.same("1: no tax of the year", x.yearTax(), 0);
        for (int quarter = 0; quarter <= 3; quarter++) {
            Check.same("1: no profit", x.profit(quarter), 0);
            Check.same("1: no pool", x.pool(quarter), 0);
            Check.same("1: nothing to prepay", x.recomputed(quarter), 0);
        }
    }

    private static void aNewObjectRefusesEveryNumber() {
        Edge.refused("1: pay", CashLedger::new, Edge.INDEX, x -> x.pay(0, 0));
        Edge.refused("1: cancel", CashLedger::new, Edge.INDEX, x -> x.cancel(0));
        Edge.refused("1: entry", CashLedger::new, Edge.INDEX, x -> x.entry(0, 0));
        Edge.refused("1: deductible", CashLedger::new, Edge.INDEX, x -> x.deductible(0));
        Edge.refused("1: setOffice", CashLedger::new, Edge.INDEX, x -> x.setOffice(0, 0, 0));
        Edge.refused("1: room", CashLedger::new, Edge.INDEX, x -> x.room(0, 0));
        Edge.refused("1: sellAsset", CashLedger::new, Edge.INDEX, x -> x.sellAsset(0, 0, 0));
        Edge.refused("1: asset", CashLedger::new, Edge.INDEX, x -> x.asset(0, 0));
        Edge.refused("1: written", CashLedger::new, Edge.INDEX, x -> x.written(0, 0));
        Edge.refused("1: bookValue", CashLedger::new, Edge.INDEX, x -> x.bookValue(0, 0));
        Edge.refused("1: undo", CashLedger::new, Edge.STATE, x -> x.undo());
        Edge.refused("1: restore", CashLedger::new, Edge.STATE, x -> x.restore());
        Edge.refused("1: settlement", CashLedger::new, Edge.STATE, x -> x.settlement());
        Edge.refused("1: oldestOpen", CashLedger::new, Edge.ELEMENT, x -> x.oldestOpen());
        Edge.refused("1: prepayment", CashLedger::new, Edge.ELEMENT, x -> x.prepayment(0));
        Edge.refused("1: correction", CashLedger::new, Edge.ELEMENT, x -> x.correction(0));
        Edge.refused("1: effectiveRate", CashLedger::new, Edge.ELEMENT, x -> x.effectiveRate());
    }

    private static void aNewObjectIsAsByItsText() {
        Check.same("1: as by the text", Picture.of(CashLedger::new),
                Picture.of(() -> Ledgers.of("bracket 1000000 0;bracket 6000000 250")));
    }

    // ---- Promise 2

    private static int word(int at, int index, int value) {
        return at / 4 == index ? value << 24 - 8 * (at % 4) : 0;
    }

    private static int appendAt(CashLedger x, int at, int value) {
        return x.append(word(at, 0, value), word(at, 1, value), word(at, 2, value), word(at, 3, value),
                word(at, 4, value));
    }

    private static void everyByteHasItsPlace() {
        for (int at = 0; at < 20; at++) {
            byte[] text = "                    ".getBytes();
            text[at] = 'X';
            CashLedger x = new CashLedger();
            x.append(Ledgers.word(text, 0), Ledgers.word(text, 4), Ledgers.word(text, 8), Ledgers.word(text, 12),
                    Ledgers.word(text, 16));
            Check.same("2: byte " + at, x.errorPosition(), at);
        }
        CashLedger x = new CashLedger();
        byte[] text = "interest 100;top 900".getBytes();
        x.append(Ledgers.word(text, 0), Ledgers.word(text, 4), Ledgers.word(text, 8), Ledgers.word(text, 12),
                Ledgers.word(text, 16));
        Check.same("2: twenty bytes in their order", x.errorPosition(), Edge.NONE);
    }

    private static void zerosDoNotCount() {
        CashLedger x = new CashLedger();
        Check.same("2: only zeros", x.append(0, 0, 0, 0, 0), 0);
        for (int at = 0; at < 20; at++) {
            Check.same("2: one byte, at " + at, appendAt(x, at, 'x'), at + 1);
        }
        Check.same("2: only zeros again", x.append(0, 0, 0, 0, 0), 20);
        CashLedger y = new CashLedger();
        y.append('t' << 16, 'o', 'p' << 24, 0, '7' << 8);
        Check.same("2: zeros between are no bytes", y.errorPosition(), Edge.NONE);
    }

    private static void everyOtherByteCounts() {
        for (int value = 1; value <= 255; value++) {
            CashLedger x = new CashLedger();
            Check.same("2: the byte " + value, appendAt(x, value % 20, value), 1);
        }
        CashLedger x = new CashLedger();
        Check.same("2: all bits", x.append(-1, -1, -1, -1, -1), 20);
        Check.same("2: the highest bits", x.append(Integer.MIN_VALUE, 0, 0, 0, Integer.MIN_VALUE), 22);
        Check.same("2: all but the highest", x.append(Integer.MAX_VALUE, 0, 0, 0, 0), 26);
    }

    private static CashLedger holding(int bytes) {
        CashLedger x = new CashLedger();
        Ledgers.put(x, "top 1;start 2;x".repeat(40).substring(0, bytes));
        return x;
    }

    private static void fourHundredBytesFit() {
        Check.same("2: 20 to 400", holding(380).append(-1, -1, -1, -1, -1), 400);
        Check.same("2: 1 to 400", holding(399).append(0, 0, 0, 0, 1), 400);
        Check.same("2: 19 to 400", holding(381).append(-1, -1, 'x' << 24 | 'y' << 8 | 'z', -1, -1), 400);
        Check.same("2: nothing to 400", holding(400).append(0, 0, 0, 0, 0), 400);
        CashLedger x = holding(400);
        x.truncate(399);
        Check.same("2: 400 again", x.append(0, 0, 'y', 0, 0), 400);
    }

    private static void oneByteTooMany() {
        for (int at = 0; at < 20; at++) {
            int place = at;
            Edge.refused("2: 401, the byte at " + at, () -> holding(400), Edge.STATE, x -> appendAt(x, place, 255));
        }
    }

    private static void twentyBytesTooMany() {
        Edge.refused("2: 381 and 20", () -> holding(381), Edge.STATE, x -> x.append(-1, -1, -1, -1, -1));
        Edge.refused("2: 399 and 2", () -> holding(399), Edge.STATE, x -> x.append(1, 0, 0, 0, 1));
        Edge.refused("2: 400 and 20", () -> holding(400), Edge.STATE, x -> x.append(-1, -1, -1, -1, -1));
        Edge.refused("2: a full ledger", Edge::full, Edge.STATE, x -> x.append(0, 1, 0, 0, 0));
        CashLedger x = holding(390);
        Check.fails("2: 390 and 11", Edge.STATE, () -> x.append(-1, -1, 0x01010100, 0, 0));
        Check.same("2: 10 fit behind a refusal", x.append(-1, -1, 0x01010000, 0, 0), 400);
    }

    // ---- Promise 3

    private static void truncateOfNothing() {
        Edge.range("3: of nothing", CashLedger::new, 0, 0, (x, v) -> x.truncate(v));
        Check.same("3: 0 of 0", new CashLedger().truncate(0), 0);
    }

    private static void truncateOfAFullBuffer() {
        Edge.range("3: of 400", () -> holding(400), 0, 400, (x, v) -> x.truncate(v));
        Edge.range("3: of 1", () -> holding(1), 0, 1, (x, v) -> x.truncate(v));
        Edge.range("3: of a busy ledger", Edge::busy, 0, 12, (x, v) -> x.truncate(v));
        for (int length : new int[] {400, 399, 1, 0}) {
            Check.same("3: to " + length, holding(400).truncate(length), length);
        }
        CashLedger x = holding(400);
        x.truncate(7);
        Check.fails("3: it does not grow again", Edge.ARGUMENT, () -> x.truncate(8));
    }

    private static void truncateKeepsTheFirstBytes() {
        CashLedger x = new CashLedger();
        Ledgers.put(x, "top 12x");
        x.truncate(7);
        Check.same("3: all bytes", x.errorPosition(), 6);
        x.truncate(6);
        Check.same("3: without the last", x.errorPosition(), Edge.NONE);
        x.truncate(4);
        Check.same("3: without its number", x.errorPosition(), 4);
        x.truncate(0);
        Check.same("3: without anything", x.errorPosition(), 0);
    }

    // ---- Promise 5

    private static CashLedger with(CashLedger x, String text) {
        x.truncate(0);
        Ledgers.put(x, text);
        return x;
    }

    private static void loadOfNothing() {
        Edge.refused("5: an empty text", CashLedger::new, Edge.ARGUMENT, x -> x.load());
        Edge.refused("5: spaces", () -> with(Edge.busy(), "  "), Edge.ARGUMENT, x -> x.load());
        Edge.refused("5: a text cut off", Edge::busy, Edge.ARGUMENT, x -> x.load());
        Edge.refused("5: a full ledger", Edge::full, Edge.ARGUMENT, x -> x.load());
    }

    private static void loadAnswersTheRooms() {
        Check.same("5: no room", with(Edge.busy(), "top 5").load(), 0);
        Check.same("5: one room", with(Edge.busy(), "room 5").load(), 1);
        Check.same("5: six rooms", with(Edge.busy(), "room 5;room 5;room 5;room 5;room 5;room 5").load(), 6);
    }

    private static void loadOfAFullBuffer() {
        CashLedger x = new CashLedger();
        Ledgers.put(x, "start 77" + " ".repeat(392));
        Check.same("5: 400 bytes", x.load(), 0);
        Check.same("5: their number", x.balance(0), 77);
    }

    private static void loadEmptiesAFullLedger() {
        CashLedger x = with(Edge.full(), "start 5");
        for (int i = 0; i < 8; i++) {
            x.setStart(i);
        }
        x.load();
        for (int what = 0; what <= 8; what++) {
            Check.same("5: full before, count(" + what + ")", x.count(what), 0);
        }
        Check.same("5: no undo", x.undoCount(), 0);
        Check.fails("5: nothing to undo", Edge.STATE, x::undo);
        Check.fails("5: no prepayment", Edge.ELEMENT, () -> x.prepayment(0));
        Check.fails("5: no entry", Edge.INDEX, () -> x.entry(0, 0));
        Check.fails("5: no room", Edge.INDEX, () -> x.room(0, 0));
        Check.fails("5: no asset", Edge.INDEX, () -> x.asset(0, 0));
        Check.same("5: equal to a new one of the text",
                Picture.of(() -> loadedOver(Edge.full(), "start 5")), Picture.of(() -> Ledgers.of("start 5")));
        Check.same("5: over a busy one", Picture.of(() -> loadedOver(Edge.busy(), "room 9 office 0 9;top 10")),
                Picture.of(() -> Ledgers.of("room 9 office 0 9;top 10")));
    }

    private static CashLedger loadedOver(CashLedger x, String text) {
        with(x, text).load();
        return x;
    }

    private static CashLedger checked(String text) {
        CashLedger x = with(new CashLedger(), text);
        x.errorPosition();
        return x;
    }

    private static void loadEmptiesTheBuffer() {
        CashLedger x = with(Edge.busy(), "top 5");
        x.load();
        Check.same("5: length 0", x.append(0, 0, 0, 0, 0), 0);
        Check.same("5: no text any more", x.errorPosition(), 0);
        Check.fails("5: a second time", Edge.ARGUMENT, x::load);
    }

    private static void loadDropsTheCopy() {
        CashLedger x = with(Edge.busy(), "top 5");
        x.save();
        x.load();
        Check.fails("5: no saved copy", Edge.STATE, x::restore);
        Edge.refused("5: a refused load keeps the copy", Edge::busy, Edge.ARGUMENT, y -> y.load());
        CashLedger y = Edge.busy();
        Check.fails("5: refused", Edge.ARGUMENT, y::load);
        Check.same("5: the copy of before", y.restore(), 3);
    }

    private static void loadTakesNothingOver() {
        String all = "start 5;assets 1 2;interest 100;top 1;bracket 5 5;room 5 office 3 4";
        String[] alone = {"start 6", "assets 3 4", "interest 7", "top 8", "bracket 9 10", "room 11", "room 1 office 2 2"};
        for (String text : alone) {
            Check.same("5: nothing is left of the text before " + text,
                    Picture.of(() -> loadedOver(Ledgers.of(all), text)), Picture.of(() -> Ledgers.of(text)));
            Check.same("5: nothing is left of two texts before " + text,
                    Picture.of(() -> loadedOver(loadedOver(Ledgers.of(all), all), text)),
                    Picture.of(() -> Ledgers.of(text)));
            Check.same("5: nothing is left of a text that was only checked before " + text,
                    Picture.of(() -> loadedOver(checked(all + ";x"), text)), Picture.of(() -> Ledgers.of(text)));
        }
    }

    private static void aRefusedLoadTakesNothing() {
        String[] bad = {"top 1;start 9;assets 1 1;interest 9;bracket 1 1;room 9;x", "room 1;room", "bracket 7 7;bracket 7 7",
            "top 5;", "start 10000001", "interest 50;interest 50"};
        for (String text : bad) {
            Edge.refused("5: " + text, () -> with(Edge.busy(), text), Edge.ARGUMENT, x -> x.load());
        }
    }

    private static void loadOfTheGreatestNumbers() {
        CashLedger x = Ledgers.of("start 10000000;assets 1000000 1000000;interest 100;top 900;bracket 99999999 900;"
                + "room 500 office 359 359");
        Check.same("5: the greatest start", x.balance(0), 10000000);
        x.addAsset(1000000, 0, 1);
        x.addAsset(1000001, 0, 1);
        Check.same("5: the greatest SMALL", x.asset(0, 3), 0);
        Check.same("5: the greatest POOL", x.asset(1, 3), 2);
        Check.same("5: the greatest limit", x.tax(99999999), 89999999);
        Check.same("5: the greatest top", x.tax(Integer.MAX_VALUE), 1932735282);
        Check.same("5: the greatest area", x.room(0, 0), 500);
        Check.same("5: the greatest from", x.room(0, 1), 359);
        Check.same("5: the greatest to", x.room(0, 2), 359);
        x.closeQuarter();
        x.addEntry(0, 0, 2000000, 0, 0);
        Check.same("5: the greatest interest", x.interest(), x.correction(0) * 4 / 10);
    }

    private static void loadOfTheLeastNumbers() {
        CashLedger x = Ledgers.of("start 0;assets 0 0;interest 0;top 0;bracket 1 0;room 1 office 0 0");
        Check.same("5: the least start", x.balance(0), 0);
        x.addAsset(1, 0, 1);
        Check.same("5: the least SMALL and POOL", x.asset(0, 3), 2);
        Check.same("5: the least rates", x.tax(Integer.MAX_VALUE), 0);
        Check.same("5: the least limit", x.count(8), 1);
        Check.same("5: the least area", x.room(0, 0), 1);
        Check.same("5: the least from", x.room(0, 1), 0);
        Check.same("5: the least to", x.room(0, 2), 0);
        CashLedger y = Ledgers.of("interest 0;top 900");
        y.closeQuarter();
        y.addEntry(0, 0, 10000000, 0, 0);
        Check.same("5: the least interest", y.interest(), 0);
    }
}
