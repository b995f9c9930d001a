/** Boundaries of promises 6 to 14, and of sections 2 to 4 and 6 as far as the changes stand on them. */
public final class ChangeEdgesTest {
    private static final int[] WRONG_DAYS = {-2, 360, Integer.MIN_VALUE, Integer.MAX_VALUE};

    public static void main(String[] args) {
        addEntryRanges();
        addEntryKeepsItsEdges();
        sixtyEntries();
        addEntryChecksArgumentsFirst();
        lateByQuarter();
        lateStaysAsItWas();
        openBeforeTheInvoice();
        payRanges();
        payAnswersTheDayBefore();
        payOfACancelledEntry();
        payChecksInOrder();
        cancelNumbers();
        cancelTwice();
        cancelKeepsTheEntry();
        addRoomRange();
        sixRooms();
        setOfficeNumbers();
        setOfficeDays();
        setOfficeOfNone();
        setOfficeAnswersTheDays();
        setOfficeChecksInOrder();
        addAssetRanges();
        twelveAssets();
        sellAssetNumbers();
        sellAssetDays();
        sellAssetPrices();
        sellAssetTwice();
        sellAssetChecksInOrder();
        sellAssetAnswersTheValue();
        fourQuarters();
        closeQuarterOfLosses();
        closeQuarterRoundsDown();
        closeQuarterIsAtLeastNothing();
        setStartRange();
        setStartAnswersTheOneBefore();
        Check.end();
    }

    // ---- Promise 6

    private static CashLedger entries(int size) {
        CashLedger x = new CashLedger();
        for (int i = 0; i < size; i++) {
            x.addEntry(0, 0, 1, 0, i);
        }
        return x;
    }

    private static void addEntryRanges() {
        Edge.range("6: kind", Edge::busy, 0, 3, (x, v) -> x.addEntry(v, 0, 1, 0, 0));
        Edge.range("6: category", Edge::busy, 0, 9, (x, v) -> x.addEntry(0, v, 1, 0, 0));
        Edge.range("6: amount", Edge::busy, 1, 10000000, (x, v) -> x.addEntry(0, 0, v, 0, 0));
        Edge.range("6: invoiced", Edge::busy, 0, 359, (x, v) -> x.addEntry(0, 0, 1, v, 0));
        Edge.range("6: paid", Edge::busy, Edge.NONE, 359, (x, v) -> x.addEntry(0, 0, 1, 0, v));
        Edge.range("6: kind of an open one", CashLedger::new, 0, 3, (x, v) -> x.addEntry(v, 0, 1, 0, Edge.NONE));
        Edge.refused("6: an invoice has a day", Edge::busy, Edge.ARGUMENT, x -> x.addEntry(0, 0, 1, Edge.NONE, 0));
    }

    private static void entryIs(CashLedger x, int entry, int... due) {
        for (int what = 0; what < due.length; what++) {
            Check.same("6: entry " + entry + ", " + what, x.entry(entry, what), due[what]);
        }
    }

    private static void addEntryKeepsItsEdges() {
        CashLedger x = new CashLedger();
        Check.same("6: the first", x.addEntry(0, 0, 1, 0, 0), 0);
        Check.same("6: the greatest", x.addEntry(3, 9, 10000000, 359, 359), 1);
        Check.same("6: an open one", x.addEntry(2, 5, 7, 359, Edge.NONE), 2);
        entryIs(x, 0, 0, 0, 1, 0, 0, 0, 0);
        entryIs(x, 1, 3, 9, 10000000, 359, 359, 0, 0);
        entryIs(x, 2, 2, 5, 7, 359, -1, 0, 0);
    }

    private static void sixtyEntries() {
        Check.same("6: the sixtieth", entries(59).addEntry(1, 2, 3, 4, 5), 59);
        Edge.refused("6: the 61st", () -> entries(60), Edge.STATE, x -> x.addEntry(0, 0, 1, 0, 0));
        Edge.refused("6: the 61st of a full ledger", Edge::full, Edge.STATE, x -> x.addEntry(3, 9, 1, 0, Edge.NONE));
        CashLedger x = entries(60);
        for (int i = 0; i < 60; i++) {
            x.cancel(i);
        }
        Check.fails("6: cancelled ones take their place", Edge.STATE, () -> x.addEntry(0, 0, 1, 0, 0));
        CashLedger y = entries(60);
        y.undo();
        Check.same("6: the sixtieth again", y.addEntry(0, 0, 1, 0, 0), 59);
    }

    private static void addEntryChecksArgumentsFirst() {
        Edge.refused("6: kind first", Edge::full, Edge.ARGUMENT, x -> x.addEntry(4, 0, 1, 0, 0));
        Edge.refused("6: category first", Edge::full, Edge.ARGUMENT, x -> x.addEntry(0, 10, 1, 0, 0));
        Edge.refused("6: amount first", Edge::full, Edge.ARGUMENT, x -> x.addEntry(0, 0, 0, 0, 0));
        Edge.refused("6: invoiced first", Edge::full, Edge.ARGUMENT, x -> x.addEntry(0, 0, 1, 360, 0));
        Edge.refused("6: paid first", Edge::full, Edge.ARGUMENT, x -> x.addEntry(0, 0, 1, 0, 360));
    }

    private static void lateByQuarter() {
        for (int closed = 0; closed <= 4; closed++) {
            CashLedger x = new CashLedger();
            for (int q = 0; q < closed; q++) {
                x.closeQuarter();
            }
            for (int q = 0; q < 4; q++) {
                int first = x.addEntry(0, 0, 1, 0, 90 * q);
                int last = x.addEntry(3, 0, 1, 359, 90 * q + 89);
                Check.same("2: late on day " + 90 * q + " of " + closed, x.entry(first, 6), q < closed ? 1 : 0);
                Check.same("2: late on the last day of " + q, x.entry(last, 6), q < closed ? 1 : 0);
            }
            Check.same("2: open is not late", x.entry(x.addEntry(0, 0, 1, 0, Edge.NONE), 6), 0);
            Check.same("2: late ones of " + closed, x.count(3), 2 * closed);
        }
    }

    private static void lateStaysAsItWas() {
        CashLedger x = new CashLedger();
        x.addEntry(0, 0, 1, 0, 89);
        x.closeQuarter();
        Check.same("2: closing makes none late", x.entry(0, 6), 0);
        x.addEntry(0, 0, 1, 0, 89);
        x.addEntry(0, 0, 1, 0, 90);
        x.addEntry(0, 0, 1, 0, Edge.NONE);
        x.pay(1, 90);
        x.pay(2, 89);
        x.pay(3, 0);
        Check.same("2: late, paid in an open quarter then", x.entry(1, 6), 1);
        Check.same("2: not late, paid in a closed one then", x.entry(2, 6), 0);
        Check.same("2: open when it was added", x.entry(3, 6), 0);
        x.pay(1, Edge.NONE);
        Check.same("2: late, open then", x.entry(1, 6), 1);
        x.cancel(1);
        Check.same("2: late, cancelled then", x.entry(1, 6), 1);
    }

    private static void openBeforeTheInvoice() {
        CashLedger x = new CashLedger();
        x.addEntry(0, 0, 10, 359, 0);
        x.addEntry(0, 0, 100, 359, Edge.NONE);
        Check.same("2: paid before the invoice", x.total(0, 0, 0), 10);
        Check.same("2: open, also before the invoice", x.open(0), 100);
        Check.same("2: open, does not count", x.total(0, 0, 359), 10);
    }

    // ---- Promise 7

    private static void payRanges() {
        Edge.numbers("7: of 6", Edge::busy, 6, (x, v) -> x.pay(v, 0));
        Edge.numbers("7: of 60", Edge::full, 60, (x, v) -> x.pay(v, Edge.NONE));
        Edge.numbers("7: of none", CashLedger::new, 0, (x, v) -> x.pay(v, 0));
        Edge.range("7: day", Edge::busy, Edge.NONE, 359, (x, v) -> x.pay(0, v));
        Edge.range("7: day of an open one", Edge::busy, Edge.NONE, 359, (x, v) -> x.pay(5, v));
    }

    private static void payAnswersTheDayBefore() {
        CashLedger x = new CashLedger();
        x.addEntry(0, 0, 9, 50, Edge.NONE);
        int[] days = {0, 359, 359, Edge.NONE, Edge.NONE, 49, 0};
        int before = Edge.NONE;
        for (int day : days) {
            Check.same("7: before " + day, x.pay(0, day), before);
            Check.same("7: now " + day, x.entry(0, 4), day);
            Check.same("7: counts on " + day, x.total(0, 0, 359), day == Edge.NONE ? 0 : 9);
            before = day;
        }
    }

    private static CashLedger cancelled() {
        CashLedger x = new CashLedger();
        x.addEntry(0, 0, 9, 50, 60);
        x.addEntry(0, 0, 9, 50, Edge.NONE);
        x.cancel(0);
        x.cancel(1);
        return x;
    }

    private static void payOfACancelledEntry() {
        for (int day : new int[] {Edge.NONE, 0, 60, 359}) {
            Edge.refused("7: cancelled, " + day, ChangeEdgesTest::cancelled, Edge.STATE, x -> x.pay(0, day));
            Edge.refused("7: cancelled and open, " + day, ChangeEdgesTest::cancelled, Edge.STATE, x -> x.pay(1, day));
        }
    }

    private static void payChecksInOrder() {
        for (int day : WRONG_DAYS) {
            Edge.refused("7: the entry first, " + day, ChangeEdgesTest::cancelled, Edge.INDEX, x -> x.pay(2, day));
            Edge.refused("7: the entry first, below, " + day, ChangeEdgesTest::cancelled, Edge.INDEX, x -> x.pay(-1, day));
            Edge.refused("7: the day second, " + day, ChangeEdgesTest::cancelled, Edge.ARGUMENT, x -> x.pay(0, day));
        }
    }

    // ---- Promise 8

    private static void cancelNumbers() {
        Edge.numbers("8: of 6", Edge::busy, 6, (x, v) -> x.cancel(v));
        Edge.numbers("8: of 60", Edge::full, 60, (x, v) -> x.cancel(v));
        Edge.numbers("8: of none", CashLedger::new, 0, (x, v) -> x.cancel(v));
    }

    private static void cancelTwice() {
        Edge.refused("8: again", ChangeEdgesTest::cancelled, Edge.STATE, x -> x.cancel(0));
        Edge.refused("8: an open one again", ChangeEdgesTest::cancelled, Edge.STATE, x -> x.cancel(1));
        Edge.refused("8: the entry first", ChangeEdgesTest::cancelled, Edge.INDEX, x -> x.cancel(2));
    }

    private static void cancelKeepsTheEntry() {
        CashLedger x = new CashLedger();
        x.addEntry(0, 0, 1, 0, 359);
        x.addEntry(1, 9, 10000000, 359, Edge.NONE);
        Check.same("8: the least amount", x.cancel(0), 1);
        Check.same("8: the greatest amount", x.cancel(1), 10000000);
        entryIs(x, 0, 0, 0, 1, 0, 359, 1, 0);
        entryIs(x, 1, 1, 9, 10000000, 359, -1, 1, 0);
        Check.same("8: it stays", x.count(0), 2);
        Check.same("8: it does not count", x.total(0, 0, 359), 0);
        Check.same("8: it is not open", x.open(1), 0);
        Check.same("8: no balance", x.balance(359), 0);
    }

    // ---- Promises 9 and 10

    private static CashLedger rooms(int size) {
        CashLedger x = new CashLedger();
        for (int i = 0; i < size; i++) {
            x.addRoom(i + 1);
        }
        return x;
    }

    private static void addRoomRange() {
        Edge.range("9: area", Edge::busy, 1, 500, (x, v) -> x.addRoom(v));
        CashLedger x = new CashLedger();
        Check.same("9: the first", x.addRoom(1), 0);
        Check.same("9: the second", x.addRoom(500), 1);
        Check.same("9: the least area", x.room(0, 0), 1);
        Check.same("9: the greatest area", x.room(1, 0), 500);
        for (int room = 0; room < 2; room++) {
            Check.same("9: without office use, from", x.room(room, 1), Edge.NONE);
            Check.same("9: without office use, to", x.room(room, 2), Edge.NONE);
        }
        CashLedger y = rooms(1);
        y.setOffice(0, 5, 6);
        y.undo();
        y.undo();
        y.addRoom(9);
        Check.same("9: without the use of one undone", y.room(0, 1), Edge.NONE);
    }

    private static void sixRooms() {
        Check.same("9: the sixth", rooms(5).addRoom(500), 5);
        Edge.refused("9: the seventh", () -> rooms(6), Edge.STATE, x -> x.addRoom(1));
        Edge.refused("9: the seventh, six of the text", Edge::full, Edge.STATE, x -> x.addRoom(500));
        Edge.refused("9: the area first, 0", Edge::full, Edge.ARGUMENT, x -> x.addRoom(0));
        Edge.refused("9: the area first, 501", () -> rooms(6), Edge.ARGUMENT, x -> x.addRoom(501));
    }

    private static void setOfficeNumbers() {
        Edge.numbers("10: of 2", Edge::busy, 2, (x, v) -> x.setOffice(v, 0, 0));
        Edge.numbers("10: of 6", Edge::full, 6, (x, v) -> x.setOffice(v, Edge.NONE, 0));
        Edge.numbers("10: of none", CashLedger::new, 0, (x, v) -> x.setOffice(v, 0, 0));
    }

    private static void setOfficeDays() {
        Edge.range("10: from", Edge::busy, Edge.NONE, 359, (x, v) -> x.setOffice(0, v, 359));
        for (int from : new int[] {0, 1, 100, 358, 359}) {
            Edge.range("10: to, from " + from, Edge::busy, from, 359, (x, v) -> x.setOffice(1, from, v));
        }
        Edge.refused("10: both too great", Edge::busy, Edge.ARGUMENT, x -> x.setOffice(0, 360, 360));
        Edge.refused("10: both too small", Edge::busy, Edge.ARGUMENT, x -> x.setOffice(0, -2, -2));
        Edge.refused("10: no last day", Edge::busy, Edge.ARGUMENT, x -> x.setOffice(0, 0, Edge.NONE));
    }

    private static void setOfficeOfNone() {
        for (int to : new int[] {Integer.MIN_VALUE, -2, Edge.NONE, 0, 359, 360, Integer.MAX_VALUE}) {
            CashLedger x = Edge.busy();
            Check.same("10: NONE, whatever to " + to, x.setOffice(0, Edge.NONE, to), 45);
            Check.same("10: NONE, from " + to, x.room(0, 1), Edge.NONE);
            Check.same("10: NONE, to " + to, x.room(0, 2), Edge.NONE);
            Check.same("10: NONE, share " + to, x.share(0, false), 0);
            Check.same("10: NONE before " + to, x.setOffice(0, 0, 0), 0);
        }
    }

    private static void setOfficeAnswersTheDays() {
        CashLedger x = rooms(1);
        int[][] uses = {{0, 0}, {359, 359}, {0, 359}, {1, 359}, {0, 358}, {29, 30}};
        int before = 0;
        for (int[] use : uses) {
            Check.same("10: before " + use[0] + " " + use[1], x.setOffice(0, use[0], use[1]), before);
            Check.same("10: from " + use[0], x.room(0, 1), use[0]);
            Check.same("10: to " + use[1], x.room(0, 2), use[1]);
            before = use[1] - use[0] + 1;
        }
        Check.same("10: the last one", x.setOffice(0, Edge.NONE, 0), 2);
    }

    private static void setOfficeChecksInOrder() {
        for (int day : WRONG_DAYS) {
            Edge.refused("10: the room first, from " + day, Edge::busy, Edge.INDEX, x -> x.setOffice(2, day, 359));
            Edge.refused("10: the room first, to " + day, Edge::busy, Edge.INDEX, x -> x.setOffice(-1, 0, day));
        }
    }

    // ---- Promises 11 and 12

    private static CashLedger assets(int size) {
        CashLedger x = new CashLedger();
        for (int i = 0; i < size; i++) {
            x.addAsset(100 * (i + 1), 30 * i, i + 1);
        }
        return x;
    }

    private static void addAssetRanges() {
        Edge.range("11: price", Edge::busy, 1, 5000000, (x, v) -> x.addAsset(v, 0, 1));
        Edge.range("11: day", Edge::busy, 0, 359, (x, v) -> x.addAsset(1, v, 1));
        Edge.range("11: life", Edge::busy, 1, 120, (x, v) -> x.addAsset(1, 0, v));
        Edge.refused("11: it has a day", Edge::busy, Edge.ARGUMENT, x -> x.addAsset(1, Edge.NONE, 1));
        CashLedger x = new CashLedger();
        x.addAsset(1, 0, 1);
        x.addAsset(5000000, 359, 120);
        int[][] due = {{1, 0, 1, 0, -1, -1}, {5000000, 359, 120, 2, -1, -1}};
        for (int i = 0; i < 2; i++) {
            for (int what = 0; what <= 5; what++) {
                Check.same("11: asset " + i + ", " + what, x.asset(i, what), due[i][what]);
            }
        }
    }

    private static void twelveAssets() {
        Check.same("11: the first", assets(0).addAsset(1, 0, 1), 0);
        Check.same("11: the twelfth", assets(11).addAsset(1, 0, 1), 11);
        Edge.refused("11: the 13th", () -> assets(12), Edge.STATE, x -> x.addAsset(1, 0, 1));
        Edge.refused("11: the price first", Edge::full, Edge.ARGUMENT, x -> x.addAsset(0, 0, 1));
        Edge.refused("11: the day first", Edge::full, Edge.ARGUMENT, x -> x.addAsset(1, 360, 1));
        Edge.refused("11: the life first", Edge::full, Edge.ARGUMENT, x -> x.addAsset(1, 0, 121));
        CashLedger x = assets(12);
        x.sellAsset(0, 359, 0);
        Check.fails("11: sold ones take their place", Edge.STATE, () -> x.addAsset(1, 0, 1));
    }

    private static void sellAssetNumbers() {
        Edge.numbers("12: of 12", () -> assets(12), 12, (x, v) -> x.sellAsset(v, 359, 0));
        Edge.numbers("12: of 1", () -> assets(1), 1, (x, v) -> x.sellAsset(v, 0, 0));
        Edge.numbers("12: of none", CashLedger::new, 0, (x, v) -> x.sellAsset(v, 0, 0));
    }

    private static CashLedger bought(int price, int day, int life) {
        CashLedger x = new CashLedger();
        x.addAsset(price, day, life);
        return x;
    }

    private static void sellAssetDays() {
        for (int day : new int[] {0, 1, 29, 30, 200, 358, 359}) {
            Edge.range("12: bought on " + day, () -> bought(1200000, day, 12), day, 359, (x, v) -> x.sellAsset(0, v, 5));
        }
        Edge.refused("12: it is sold on a day", Edge::busy, Edge.ARGUMENT, x -> x.sellAsset(0, Edge.NONE, 5));
    }

    private static void sellAssetPrices() {
        Edge.range("12: price", () -> bought(5, 0, 1), 0, 5000000, (x, v) -> x.sellAsset(0, 0, v));
        for (int price : new int[] {0, 1, 5000000}) {
            CashLedger x = bought(5, 0, 1);
            x.sellAsset(0, 359, price);
            Check.same("12: sold for " + price, x.asset(0, 5), price);
            Check.same("12: sold on 359 for " + price, x.asset(0, 4), 359);
            Check.same("12: the balance with " + price, x.balance(359), price - 5);
            Check.same("12: one is sold", x.count(6), 1);
        }
    }

    private static CashLedger sold(int price) {
        CashLedger x = bought(1200000, 100, 12);
        x.sellAsset(0, 100, price);
        return x;
    }

    private static void sellAssetTwice() {
        for (int price : new int[] {0, 7}) {
            Edge.refused("12: sold already for " + price, () -> sold(price), Edge.STATE, x -> x.sellAsset(0, 100, price));
            Edge.refused("12: sold already, later", () -> sold(price), Edge.STATE, x -> x.sellAsset(0, 359, 9));
        }
        CashLedger first = bought(5, 0, 1);
        first.sellAsset(0, 0, 0);
        Check.fails("12: sold on day 0 already", Edge.STATE, () -> first.sellAsset(0, 0, 0));
    }

    private static void sellAssetChecksInOrder() {
        for (int day : WRONG_DAYS) {
            Edge.refused("12: the asset first, " + day, () -> sold(1), Edge.INDEX, x -> x.sellAsset(1, day, 0));
            Edge.refused("12: the day second, " + day, () -> sold(1), Edge.ARGUMENT, x -> x.sellAsset(0, day, 0));
        }
        Edge.refused("12: the asset first, a price", () -> sold(1), Edge.INDEX, x -> x.sellAsset(-1, 100, -1));
        Edge.refused("12: the price second", () -> sold(1), Edge.ARGUMENT, x -> x.sellAsset(0, 100, 5000001));
        Edge.refused("12: the price second, below", () -> sold(1), Edge.ARGUMENT, x -> x.sellAsset(0, 100, -1));
        Edge.refused("12: the day of buying second", () -> sold(1), Edge.ARGUMENT, x -> x.sellAsset(0, 99, 0));
    }

    private static void valueIs(int due, int price, int bought, int life, int sold) {
        Check.same("12: value of " + price + " " + bought + " " + life + " on " + sold,
                bought(price, bought, life).sellAsset(0, sold, 1), due);
    }

    private static void sellAssetAnswersTheValue() {
        // There is no month before month 0.
        valueIs(0, 1200000, 0, 12, 0);
        valueIs(0, 1200000, 0, 12, 29);
        valueIs(1100000, 1200000, 0, 12, 30);
        valueIs(1100000, 1200000, 0, 12, 59);
        valueIs(1000000, 1200000, 0, 12, 60);
        valueIs(100000, 1200000, 0, 12, 359);
        // Before the month of buying the book value is 0.
        valueIs(0, 1200000, 330, 12, 359);
        valueIs(0, 1200000, 329, 12, 329);
        valueIs(1100000, 1200000, 329, 12, 330);
        // Its life ends with a month, and nothing is left behind it.
        valueIs(0, 1200000, 0, 2, 29);
        valueIs(600000, 1200000, 0, 2, 59);
        valueIs(0, 1200000, 0, 2, 60);
        valueIs(0, 1200000, 0, 1, 30);
        valueIs(0, 80000, 0, 12, 30);
        valueIs(0, 80001, 0, 12, 30);
        valueIs(0, 100000, 0, 12, 30);
        valueIs(91668, 100001, 0, 12, 30);
    }

    // ---- Promise 13

    private static void fourQuarters() {
        CashLedger x = Ledgers.of("top 500");
        for (int q = 0; q < 4; q++) {
            x.addEntry(0, 0, 1000, 0, 90 * q);
        }
        for (int q = 0; q < 4; q++) {
            Check.same("13: closed before " + q, x.count(7), q);
            Check.same("13: quarter " + q, x.closeQuarter(), 500);
            Check.same("13: its prepayment " + q, x.prepayment(q), 500);
        }
        Check.same("13: all closed", x.count(7), 4);
        Check.fails("13: a fifth", Edge.STATE, x::closeQuarter);
        Edge.refused("13: a fifth of a full ledger", Edge::full, Edge.STATE, y -> y.closeQuarter());
        x.undo();
        Check.same("13: the fourth again", x.closeQuarter(), 500);
    }

    private static CashLedger earning(int amount, int day) {
        CashLedger x = Ledgers.of("top 900");
        if (amount != 0) {
            x.addEntry(amount > 0 ? 0 : 1, 0, Math.abs(amount), 0, day);
        }
        return x;
    }

    private static void closeQuarterOfLosses() {
        for (int amount : new int[] {-10000000, -1, 0}) {
            CashLedger x = earning(amount, 0);
            for (int q = 0; q < 4; q++) {
                Check.same("6: no estimate of " + amount, x.closeQuarter(), 0);
            }
        }
        CashLedger x = earning(-1000, 0);
        x.addEntry(0, 0, 1000, 0, 90);
        x.addEntry(0, 0, 1000, 0, 180);
        int[] due = {0, 0, 899, 1};
        for (int q = 0; q < 4; q++) {
            // 1000 in three quarters: an estimate of 1333, its tax 1199, of which three quarters are 899
            Check.same("6: out of a loss, quarter " + q, x.closeQuarter(), due[q]);
        }
    }

    private static void closes(int quarter, int amount, int due) {
        CashLedger x = earning(amount, 90 * quarter);
        for (int q = 0; q < quarter; q++) {
            Check.same("6: nothing before", x.closeQuarter(), 0);
        }
        Check.same("6: " + amount + " in quarter " + quarter, x.closeQuarter(), due);
    }

    private static void closeQuarterRoundsDown() {
        closes(0, 1, 0);        // 4, tax 3 of 3.6, a quarter of it 0.75
        closes(0, 2, 1);        // 8, tax 7 of 7.2, 1.75
        closes(0, 3, 2);        // 12, tax 10 of 10.8, 2.5
        closes(0, 5, 4);        // 20, tax 18, 4.5
        closes(1, 5, 4);        // 10, tax 9, 4.5
        closes(1, 1, 0);        // 2, tax 1 of 1.8, 0.5
        closes(2, 1, 0);        // 1 of 1.33, no tax
        closes(2, 2, 0);        // 2 of 2.67, tax 1 of 1.8, 0.75
        closes(2, 5, 3);        // 6 of 6.67, tax 5 of 5.4, 3.75
        closes(2, 7, 6);        // 9 of 9.33, tax 8 of 8.1, 6
        closes(3, 1, 0);        // 1, no tax of 0.9
        closes(3, 7, 6);        // 7, tax 6 of 6.3
        closes(3, 10, 9);
    }

    private static void closeQuarterIsAtLeastNothing() {
        int[] second = {1, 0, -1, -1000, 1002};
        int[] due = {1, 0, 0, 0, 1002};
        for (int i = 0; i < second.length; i++) {
            // The first quarter pays 1000; the profit of both ones then asks for 1000 and what is due.
            CashLedger x = Ledgers.of("top 500");
            x.addEntry(0, 0, 2000, 0, 0);
            Check.same("6: the first", x.closeQuarter(), 1000);
            int more = 2 * second[i];
            if (more != 0) {
                x.addEntry(more > 0 ? 0 : 1, 0, Math.abs(more), 0, 90);
            }
            Check.same("6: then " + second[i], x.closeQuarter(), due[i]);
        }
        CashLedger x = Ledgers.of("top 500");
        x.addEntry(0, 0, 2000, 0, 0);
        x.addEntry(1, 0, 1000, 0, 90);
        x.addEntry(0, 0, 1002, 0, 180);
        int[] all = {1000, 0, 0, 1};
        for (int q = 0; q < 4; q++) {
            // 2002 in three quarters: an estimate of 2669, its tax 1334, of which three quarters are 1000
            Check.same("6: less what was paid in all, " + q, x.closeQuarter(), all[q]);
        }
    }

    // ---- Promise 14

    private static void setStartRange() {
        Edge.range("14: balance", Edge::busy, -10000000, 10000000, (x, v) -> x.setStart(v));
        Edge.range("14: balance of a full ledger", Edge::full, -10000000, 10000000, (x, v) -> x.setStart(v));
    }

    private static void setStartAnswersTheOneBefore() {
        CashLedger x = Ledgers.of("start 10000000");
        int before = 10000000;
        for (int start : new int[] {-10000000, -1, 0, 1, 10000000, 10000000}) {
            Check.same("14: before " + start, x.setStart(start), before);
            Check.same("14: the first day of " + start, x.balance(0), start);
            Check.same("14: the last day of " + start, x.balance(359), start);
            before = start;
        }
        Check.same("14: of no text", new CashLedger().setStart(5), 0);
    }
}
