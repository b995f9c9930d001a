/** Promises 11, 12 and 28 to 32: assets and the pool. */
public final class AssetsTest {
    public static void main(String[] args) {
        addAsset();
        sellAsset();
        valueWhenSold();
        asset();
        writtenSmall();
        writtenSingle();
        writtenSold();
        pooled();
        pool();
        Check.end();
    }

    private static void refused(int price, int day, int life) {
        CashLedger x = new CashLedger();
        Check.fails("11: " + price + " " + day + " " + life, IllegalArgumentException.class,
                () -> x.addAsset(price, day, life));
        Check.same("11: no asset", x.count(5), 0);
        Check.same("11: no change", x.undoCount(), 0);
    }

    private static void addAsset() {
        refused(0, 0, 1);
        refused(5000001, 0, 1);
        refused(1, -1, 1);
        refused(1, 360, 1);
        refused(1, 0, 0);
        refused(1, 0, 121);
        CashLedger x = new CashLedger();
        Check.same("11: least", x.addAsset(1, 0, 1), 0);
        Check.same("11: most", x.addAsset(5000000, 359, 120), 1);
        for (int i = 2; i < 12; i++) {
            Check.same("11: number", x.addAsset(i, i, i), i);
        }
        Check.fails("11: 12 assets", IllegalStateException.class, () -> x.addAsset(1, 0, 1));
        Check.fails("11: arguments first", IllegalArgumentException.class, () -> x.addAsset(0, 0, 1));
        Check.same("11: still 12", x.count(5), 12);
    }

    private static void sellAsset() {
        CashLedger x = new CashLedger();
        x.addAsset(1200000, 40, 12);
        Check.fails("12: asset 1", IndexOutOfBoundsException.class, () -> x.sellAsset(1, 400, 0));
        Check.fails("12: asset -1", IndexOutOfBoundsException.class, () -> x.sellAsset(-1, 50, 0));
        Check.fails("12: a day too early", IllegalArgumentException.class, () -> x.sellAsset(0, 39, 0));
        Check.fails("12: day 360", IllegalArgumentException.class, () -> x.sellAsset(0, 360, 0));
        Check.fails("12: price -1", IllegalArgumentException.class, () -> x.sellAsset(0, 50, -1));
        Check.fails("12: price 5000001", IllegalArgumentException.class, () -> x.sellAsset(0, 50, 5000001));
        Check.same("12: no more changes", x.undoCount(), 1);
        Check.same("12: not sold", x.asset(0, 4), -1);
        Check.same("12: value", x.sellAsset(0, 90, 5000000), 1000000);
        Check.fails("12: again", IllegalStateException.class, () -> x.sellAsset(0, 90, 0));
        Check.fails("12: the day first", IllegalArgumentException.class, () -> x.sellAsset(0, 39, 0));
        Check.same("12: changes", x.undoCount(), 2);
        Check.same("12: the first price", x.asset(0, 5), 5000000);
        x.addAsset(5, 359, 1);
        Check.same("12: for nothing", x.sellAsset(1, 359, 0), 0);
        Check.same("12: is sold", x.asset(1, 4), 359);
    }

    private static int valueSold(int price, int bought, int life, int sold) {
        CashLedger x = new CashLedger();
        x.addAsset(price, bought, life);
        return x.sellAsset(0, sold, 1);
    }

    private static void valueWhenSold() {
        Check.same("12: in month 0", valueSold(1200000, 0, 12, 29), 0);
        Check.same("12: in the month of buying", valueSold(1200000, 30, 12, 59), 0);
        Check.same("12: in the month behind it", valueSold(1200000, 30, 12, 60), 1100000);
        Check.same("12: on the day", valueSold(1200000, 89, 12, 89), 0);
        Check.same("12: in the last month", valueSold(1200000, 0, 12, 359), 100000);
        Check.same("12: after its life", valueSold(1200000, 0, 3, 200), 0);
        Check.same("12: a small one", valueSold(80000, 0, 12, 200), 0);
        Check.same("12: a pooled one", valueSold(100000, 0, 12, 200), 0);
        Check.same("12: rounded", valueSold(1000000, 0, 7, 60), 714286);
    }

    private static void asset() {
        CashLedger x = new CashLedger();
        x.addAsset(80000, 10, 3);
        x.addAsset(80001, 11, 4);
        x.addAsset(100000, 12, 5);
        x.addAsset(100001, 13, 6);
        x.sellAsset(2, 100, 77);
        int[][] due = {{80000, 10, 3, 0, -1, -1}, {80001, 11, 4, 1, -1, -1}, {100000, 12, 5, 1, 100, 77},
            {100001, 13, 6, 2, -1, -1}};
        for (int i = 0; i < due.length; i++) {
            for (int what = 0; what < 6; what++) {
                Check.same("28: " + i + ", " + what, x.asset(i, what), due[i][what]);
            }
        }
        Check.fails("28: asset 4", IndexOutOfBoundsException.class, () -> x.asset(4, 9));
        Check.fails("28: asset -1", IndexOutOfBoundsException.class, () -> x.asset(-1, 0));
        Check.fails("28: what 6", IllegalArgumentException.class, () -> x.asset(0, 6));
        Check.fails("28: what -1", IllegalArgumentException.class, () -> x.asset(0, -1));
        CashLedger same = Ledgers.of("assets 5 5");
        same.addAsset(5, 0, 1);
        same.addAsset(6, 0, 1);
        Check.same("28: small at both limits", same.asset(0, 3), 0);
        Check.same("28: none is pooled", same.asset(1, 3), 2);
    }

    private static void months(CashLedger x, int asset, int[] written, int[] value) {
        for (int month = 0; month < 12; month++) {
            Check.same("29: " + asset + " in " + month, x.written(asset, month), written[month]);
            Check.same("30: " + asset + " at the end of " + month, x.bookValue(asset, month), value[month]);
        }
    }

    private static void writtenSmall() {
        CashLedger x = new CashLedger();
        x.addAsset(80000, 65, 10);
        int[] written = {0, 0, 80000, 0, 0, 0, 0, 0, 0, 0, 0, 0};
        months(x, 0, written, new int[12]);
        x.sellAsset(0, 200, 5);
        months(x, 0, written, new int[12]);
        Check.fails("29: asset 1", IndexOutOfBoundsException.class, () -> x.written(1, 20));
        Check.fails("29: asset -1", IndexOutOfBoundsException.class, () -> x.written(-1, 0));
        Check.fails("29: month 12", IllegalArgumentException.class, () -> x.written(0, 12));
        Check.fails("29: month -1", IllegalArgumentException.class, () -> x.written(0, -1));
        Check.fails("30: asset 1", IndexOutOfBoundsException.class, () -> x.bookValue(1, 20));
        Check.fails("30: asset -1", IndexOutOfBoundsException.class, () -> x.bookValue(-1, 0));
        Check.fails("30: month 12", IllegalArgumentException.class, () -> x.bookValue(0, 12));
        Check.fails("30: month -1", IllegalArgumentException.class, () -> x.bookValue(0, -1));
    }

    private static void writtenSingle() {
        CashLedger x = Ledgers.of("assets 0 0");
        x.addAsset(100, 95, 7);
        months(x, 0, new int[] {0, 0, 0, 14, 14, 14, 15, 14, 14, 15, 0, 0},
                new int[] {0, 0, 0, 86, 72, 58, 43, 29, 15, 0, 0, 0});
        x.addAsset(100, 0, 1);
        months(x, 1, new int[] {100, 0, 0, 0, 0, 0, 0, 0, 0, 0, 0, 0}, new int[12]);
        x.addAsset(5000000, 359, 120);
        months(x, 2, new int[] {0, 0, 0, 0, 0, 0, 0, 0, 0, 0, 0, 41666},
                new int[] {0, 0, 0, 0, 0, 0, 0, 0, 0, 0, 0, 4958334});
        x.addAsset(1, 0, 12);
        months(x, 3, new int[] {0, 0, 0, 0, 0, 0, 0, 0, 0, 0, 0, 1},
                new int[] {1, 1, 1, 1, 1, 1, 1, 1, 1, 1, 1, 0});
    }

    private static void writtenSold() {
        CashLedger x = Ledgers.of("assets 0 0");
        x.addAsset(100, 95, 7);
        x.sellAsset(0, 150, 1);
        months(x, 0, new int[] {0, 0, 0, 14, 14, 72, 0, 0, 0, 0, 0, 0},
                new int[] {0, 0, 0, 86, 72, 0, 0, 0, 0, 0, 0, 0});
        x.addAsset(100, 95, 7);
        x.sellAsset(1, 119, 1);
        months(x, 1, new int[] {0, 0, 0, 100, 0, 0, 0, 0, 0, 0, 0, 0}, new int[12]);
        x.addAsset(100, 0, 3);
        x.sellAsset(2, 359, 1);
        months(x, 2, new int[] {33, 33, 34, 0, 0, 0, 0, 0, 0, 0, 0, 0},
                new int[] {67, 34, 0, 0, 0, 0, 0, 0, 0, 0, 0, 0});
        Check.same("33: the sale and the rest", x.profit(1), 1 - 100 + 1 - 100);
    }

    private static void pooled() {
        CashLedger x = new CashLedger();
        x.addAsset(90000, 0, 10);
        months(x, 0, new int[12], new int[12]);
        x.sellAsset(0, 100, 9);
        months(x, 0, new int[12], new int[12]);
        Check.same("31: sold ones, too", x.pool(3), 90000);
        Check.same("32: sold ones, too", x.poolWritten(2), 4500);
    }

    private static void pool() {
        CashLedger x = new CashLedger();
        for (int q = 0; q < 4; q++) {
            Check.same("31: none", x.pool(q), 0);
            Check.same("32: none", x.poolWritten(q), 0);
        }
        x.addAsset(90001, 89, 10);
        x.addAsset(90002, 90, 10);
        x.addAsset(90004, 359, 10);
        x.addAsset(80000, 0, 10);
        x.addAsset(100001, 0, 10);
        int[] pool = {90001, 180003, 180003, 270007};
        int[] upTo = {4500, 18000, 27000, 54001};
        for (int q = 0; q < 4; q++) {
            Check.same("31: " + q, x.pool(q), pool[q]);
            Check.same("32: " + q, x.poolWritten(q), upTo[q] - (q == 0 ? 0 : upTo[q - 1]));
        }
        Check.fails("31: -1", IllegalArgumentException.class, () -> x.pool(-1));
        Check.fails("31: 4", IllegalArgumentException.class, () -> x.pool(4));
        Check.fails("32: -1", IllegalArgumentException.class, () -> x.poolWritten(-1));
        Check.fails("32: 4", IllegalArgumentException.class, () -> x.poolWritten(4));
        CashLedger full = Ledgers.of("assets 0 1000000");
        for (int i = 0; i < 12; i++) {
            full.addAsset(1000000, 0, 1);
        }
        Check.same("32: the greatest pool", full.poolWritten(3), 600000);
    }
}
