/** Promises 1 to 5 and section 9: a new object, the input buffer, setup texts. */
public final class SetupTest {
    private static final int A = 'a' << 24 | 'a' << 16 | 'a' << 8 | 'a';

    public static void main(String[] args) {
        newObject();
        append();
        truncate();
        validTexts();
        errorPositions();
        errorsOfNumbers();
        errorsOfTooMany();
        fullBuffers();
        load();
        loadDefaults();
        Check.end();
    }

    private static void newObject() {
        CashLedger x = new CashLedger();
        Check.same("1: NONE", CashLedger.NONE, -1);
        for (int what = 0; what <= 7; what++) {
            Check.same("1: count(" + what + ")", x.count(what), 0);
        }
        Check.same("1: count(8)", x.count(8), 2);
        Check.same("1: rate(1000000)", x.rate(1000000), 0);
        Check.same("1: rate(1000001)", x.rate(1000001), 250);
        Check.same("1: rate(6000000)", x.rate(6000000), 250);
        Check.same("1: rate(6000001)", x.rate(6000001), 420);
        Check.same("1: truncate(0)", x.truncate(0), 0);
        Check.fails("1: truncate(1)", IllegalArgumentException.class, () -> x.truncate(1));
        Check.same("1: errorPosition", x.errorPosition(), 0);
        Check.same("1: undoCount", x.undoCount(), 0);
        Check.fails("1: restore", IllegalStateException.class, x::restore);
        Check.same("1: as by the text", Ledgers.picture(x),
                Ledgers.picture(Ledgers.of("bracket 1000000 0;bracket 6000000 250")));
    }

    private static void append() {
        CashLedger x = new CashLedger();
        Check.same("2: nothing", x.append(0, 0, 0, 0, 0), 0);
        Check.same("2: bytes of 0 do not count", x.append('t', 'o' << 8, 'p' << 16, ' ' << 24, '1'), 5);
        Check.same("2: their order", x.errorPosition(), -1);
        Check.same("2: the first byte first", x.append((';' << 24) | ('t' << 16) | ('o' << 8) | 'x', 0, 0, 0, 0), 9);
        Check.same("2: tox at 6", x.errorPosition(), 6);
        Check.same("2: bytes above 127", x.append(-1, 0, 0, 0, 0), 13);
        x.truncate(0);
        for (int i = 1; i <= 19; i++) {
            Check.same("2: length", x.append(A, A, A, A, A), 20 * i);
        }
        Check.same("2: 399", x.append(A, A, A, A, A >>> 8), 399);
        Check.fails("2: 401", IllegalStateException.class, () -> x.append('a', 0, 0, 0, 'a'));
        Check.same("2: nothing was appended", x.append(0, 0, 0, 0, 0), 399);
        Check.same("2: 400", x.append(0, 0, 'a' << 8, 0, 0), 400);
        Check.same("2: nothing to 400", x.append(0, 0, 0, 0, 0), 400);
        Check.fails("2: one to 400, a", IllegalStateException.class, () -> x.append(1, 0, 0, 0, 0));
        Check.fails("2: one to 400, b", IllegalStateException.class, () -> x.append(0, 1, 0, 0, 0));
        Check.fails("2: one to 400, c", IllegalStateException.class, () -> x.append(0, 0, 1 << 24, 0, 0));
        Check.fails("2: one to 400, d", IllegalStateException.class, () -> x.append(0, 0, 0, 1, 0));
        Check.fails("2: one to 400, e", IllegalStateException.class, () -> x.append(0, 0, 0, 0, 1));
        Check.fails("2: 20 to 400", IllegalStateException.class, () -> x.append(-1, -1, -1, -1, -1));
        Check.same("2: still 400", x.truncate(400), 400);
    }

    private static void truncate() {
        CashLedger x = new CashLedger();
        Ledgers.put(x, "top 1x");
        Check.fails("3: -1", IllegalArgumentException.class, () -> x.truncate(-1));
        Check.fails("3: 7", IllegalArgumentException.class, () -> x.truncate(7));
        Check.fails("3: least", IllegalArgumentException.class, () -> x.truncate(Integer.MIN_VALUE));
        Check.same("3: 6 stays", x.truncate(6), 6);
        Check.same("3: x at 5", x.errorPosition(), 5);
        Check.same("3: 5", x.truncate(5), 5);
        Check.same("3: shortened", x.errorPosition(), -1);
        Ledgers.put(x, ";top");
        Check.same("3: goes on behind", x.errorPosition(), 6);
        Check.same("3: 0", x.truncate(0), 0);
        Check.fails("3: 1 of 0", IllegalArgumentException.class, () -> x.truncate(1));
    }

    private static void validTexts() {
        String[] valid = {
            "start 0", "start 10000000", "start5", "start 00000005", "  start   5  ",
            "assets 0 0", "assets 1000000 1000000", "assets 5 5", "assets 0 1000000",
            "interest 0", "interest 100", "top 0", "top 900", "top 0;start 1",
            "bracket 1 0", "bracket 99999999 900", "bracket 1 5;bracket 2 5;bracket 3 5;bracket 4 5;bracket 5 5",
            "room 1", "room 500", "room 5 office 0 0", "room 5 office 359 359", "room5office0 359",
            "room 1;room 1;room 1;room 1;room 1;room 1 office 5 6", "room 1 ; top 5 ; room 2",
            "start 1;assets 1 2;interest 3;top 4;bracket 5 6;room 7 office 8 9",
        };
        for (String text : valid) {
            Check.same("4: " + text, Ledgers.errorOf(text), -1);
        }
    }

    private static void error(String text, int position) {
        Check.same("4: " + text, Ledgers.errorOf(text), position);
    }

    private static void errorPositions() {
        error("", 0);
        error("   ", 3);
        error(";", 0);
        error(" ;", 1);
        error("start 5;", 8);
        error("start 5; ", 9);
        error("start 5;;top 5", 8);
        error("start", 5);
        error("start ", 6);
        error("start ;", 6);
        error("start top", 6);
        error("startx 5", 0);
        error("starts 5", 0);
        error("star 5", 0);
        error("xtart 5", 0);
        error("xop 5", 0);
        error("room 5 xffice 1 2", 7);
        error("assets;", 6);
        error("room;", 4);
        error("bracket;", 7);
        error("Start 5", 0);
        error("office 1 2", 0);
        error("5", 0);
        error("start -5", 6);
        error("start 5 6", 8);
        error("start 5 start 6", 8);
        error("start 5x", 7);
        error("start 5.", 7);
        error("start 5\t", 7);
        error("start\u00e95", 5);
        error("top 5\u00ff", 5);
        error("assets 5", 8);
        error("assets 5 x", 9);
        error("assets 5;", 8);
        error("bracket 5", 9);
        error("bracket 5;", 9);
        error("bracket 5 office", 10);
        error("room", 4);
        error("room office 1 2", 5);
        error("room 5 office", 13);
        error("room 5 office 1", 15);
        error("room 5 office 1;", 15);
        error("room 5 office 1 2 3", 18);
        error("room 5 off 1 2", 7);
        error("room 5 officex 1 2", 7);
        error("room 5 6 7", 7);
        error("room 5 office 1 2 office 3 4", 18);
        error("top 5 office 1 2", 6);
        error("interest5;interest", 10);
        error("top 1;zzz", 6);
    }

    private static void errorsOfNumbers() {
        error("start 10000001", 6);
        error("start 100000000", 6);
        error("start 000000000", 6);
        error("start 99999999999999999999", 6);
        error("start 4294967296", 6);
        error("assets 1000001 1000001", 7);
        error("assets 5 4", 9);
        error("assets 5 1000001", 9);
        error("interest 101", 9);
        error("top 901", 4);
        error("bracket 0 5", 8);
        error("bracket 100000000 5", 8);
        error("bracket 5 901", 10);
        error("bracket 5 1;bracket 5 1", 20);
        error("bracket 5 1;bracket 4 1", 20);
        error("bracket 5 1;top 3;bracket 6 1", -1);
        error("bracket 5 1;top 3;bracket 5 1", 26);
        error("bracket 99999999 1;bracket 99999999 1", 27);
        error("room 0", 5);
        error("room 501", 5);
        error("room 5 office 360 360", 14);
        error("room 5 office 5 4", 16);
        error("room 5 office 5 360", 16);
        error("room 5 office 000000001 5", 14);
    }

    private static void errorsOfTooMany() {
        error("start 1;start 1", 8);
        error("start 1; start", 9);
        error("assets 1 1;assets 1 1", 11);
        error("interest 1;interest 1", 11);
        error("top 1;start 1;top 1", 14);
        error("bracket 1 5;bracket 2 5;bracket 3 5;bracket 4 5;bracket 5 5;bracket 6 5", 60);
        error("room 1;room 1;room 1;room 1;room 1;room 1;room 1", 42);
    }

    private static void fullBuffers() {
        error(" ".repeat(400), 400);
        error("a".repeat(400), 0);
        error("top " + "0".repeat(396), 4);
        error("top 1" + " ".repeat(394) + ";", 400);
        error("top 1" + ";".repeat(395), 6);
        error("top 1" + " ".repeat(395), -1);
        error(" ".repeat(395) + "top 1", -1);
        error(" ".repeat(393) + "start 5", -1);
        error(" ".repeat(394) + "start ", 400);
        error(" ".repeat(395) + "start", 400);
        CashLedger x = new CashLedger();
        Ledgers.put(x, " ".repeat(394) + "room 7");
        Check.same("5: a full buffer", x.load(), 1);
    }

    private static void load() {
        CashLedger x = new CashLedger();
        x.addEntry(0, 0, 5, 0, 0);
        x.addAsset(5, 0, 1);
        x.addRoom(5);
        x.closeQuarter();
        x.save();
        Ledgers.put(x, "start 5;room");
        String before = Ledgers.picture(x);
        Check.fails("5: not valid", IllegalArgumentException.class, x::load);
        Check.same("5: nothing changed", Ledgers.picture(x), before);
        Check.same("5: the buffer is kept", x.truncate(12), 12);
        Ledgers.put(x, "7;room 8 office 30 31; bracket 100 10;top 20;interest 100;assets 3 4");
        Check.same("5: load", x.load(), 2);
        Check.fails("5: the buffer is empty", IllegalArgumentException.class, () -> x.truncate(1));
        Check.same("5: no undo", x.undoCount(), 0);
        Check.fails("5: no copy", IllegalStateException.class, x::restore);
        int[] counts = {0, 0, 0, 0, 2, 0, 0, 0, 1};
        for (int what = 0; what <= 8; what++) {
            Check.same("5: count(" + what + ")", x.count(what), counts[what]);
        }
        Check.same("5: start", x.balance(0), 5);
        Check.same("5: area 0", x.room(0, 0), 7);
        Check.same("5: no office", x.room(0, 1), -1);
        Check.same("5: no office's end", x.room(0, 2), -1);
        Check.same("5: area 1", x.room(1, 0), 8);
        Check.same("5: from", x.room(1, 1), 30);
        Check.same("5: to", x.room(1, 2), 31);
        Check.same("5: bracket", x.rate(100), 10);
        Check.same("5: top", x.rate(101), 20);
        x.addAsset(3, 0, 2);
        x.addAsset(4, 0, 2);
        x.addAsset(5, 0, 2);
        Check.same("5: small", x.asset(0, 3), 0);
        Check.same("5: pooled", x.asset(1, 3), 1);
        Check.same("5: single", x.asset(2, 3), 2);
        Check.fails("5: an empty text", IllegalArgumentException.class, x::load);
        Check.same("5: kept", x.count(5), 3);
    }

    /** A second load starts from the defaults, not from what was loaded before. */
    private static void loadDefaults() {
        CashLedger x = Ledgers.of("start 5;assets 1 2;interest 100;top 1;bracket 5 5;room 5");
        Ledgers.put(x, "room 9 office 1 2");
        x.errorPosition();
        Check.same("5: errorPosition changes nothing", x.room(0, 0), 5);
        x.truncate(0);
        Ledgers.put(x, "start 0");
        Check.same("5: no rooms", x.load(), 0);
        Check.same("5: no brackets", x.count(8), 0);
        Check.same("5: top 420", x.rate(1), 420);
        Check.same("5: balance 0", x.balance(359), 0);
        x.addAsset(80000, 0, 5);
        x.addAsset(80001, 0, 5);
        x.addAsset(100000, 0, 5);
        x.addAsset(100001, 0, 5);
        Check.same("5: 80000", x.asset(0, 3), 0);
        Check.same("5: 80001", x.asset(1, 3), 1);
        Check.same("5: 100000", x.asset(2, 3), 1);
        Check.same("5: 100001", x.asset(3, 3), 2);
        Ledgers.put(x, "start 7;assets 1 1;interest 1;top 1");
        x.errorPosition();
        Check.same("5: checked before, nothing stands twice", x.load(), 0);
        Check.same("5: top 1", x.rate(1), 1);
        Ledgers.put(x, "room 1");
        x.load();
        Check.same("5: the start is 0 again", x.balance(0), 0);
        CashLedger y = Ledgers.of("top 420");
        y.closeQuarter();
        y.addEntry(0, 0, 1000000, 0, 0);
        Check.same("5: interest 5", y.interest(), 420000 * 5 * 4 / 1000);
        CashLedger z = Ledgers.of("top 500;interest 100");
        z.closeQuarter();
        z.addEntry(0, 0, 100, 0, 0);
        Check.same("5: interest 100", z.interest(), 20);
    }
}
