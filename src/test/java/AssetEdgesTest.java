/** Boundaries of section 4 and promises 28 to 32: sorts, months of writing off, sales and the pool. */
public final class AssetEdgesTest {
    public static void main(String[] args) {
        assetNumbers();
        assetWhat();
        assetChecksTheNumberFirst();
        assetThatIsNotSold();
        sortsByDefault();
        sortsOfASetup();
        writtenNumbers();
        writtenMonths();
        writtenOfSmallOnes();
        writtenInTheMonthOfBuying();
        writtenOverALife();
        writtenBeyondTheYear();
        writtenRoundsDown();
        writtenWhenSold();
        writtenWhenSoldInItsMonth();
        writtenWhenSoldAfterItsLife();
        writtenOfPooledOnes();
        bookValueNumbers();
        bookValueMonths();
        bookValueBeforeBuying();
        bookValueBehindASale();
        bookValueRoundsUp();
        poolRange();
        poolOfNothing();
        poolAtTheEdgesOfQuarters();
        poolCountsSoldOnes();
        poolCountsPooledOnesOnly();
        poolWrittenRoundsDown();
        poolOfTwelve();
        Check.end();
    }

    // ---- Promise 28

    private static void assetNumbers() {
        Edge.numbers("28: of 3", Edge::busy, 3, (x, v) -> x.asset(v, 0));
        Edge.numbers("28: of 12", Edge::full, 12, (x, v) -> x.asset(v, 5));
        Edge.numbers("28: of none", CashLedger::new, 0, (x, v) -> x.asset(v, 0));
    }

    private static void assetWhat() {
        Edge.range("28: what", Edge::busy, 0, 5, (x, v) -> x.asset(2, v));
        int[] due = {1201, 40, 6, 2, 100, 900};
        for (int what = 0; what <= 5; what++) {
            Check.same("28: the last of three, " + what, Edge.busy().asset(2, what), due[what]);
        }
    }

    private static void assetChecksTheNumberFirst() {
        Edge.refused("28: number and what", Edge::busy, Edge.INDEX, x -> x.asset(3, 6));
        Edge.refused("28: number and what below", Edge::busy, Edge.INDEX, x -> x.asset(-1, -1));
    }

    private static void assetThatIsNotSold() {
        CashLedger x = new CashLedger();
        x.addAsset(1, 0, 1);
        Check.same("28: no day", x.asset(0, 4), Edge.NONE);
        Check.same("28: no price", x.asset(0, 5), Edge.NONE);
        x.sellAsset(0, 0, 0);
        Check.same("28: day 0", x.asset(0, 4), 0);
        Check.same("28: price 0", x.asset(0, 5), 0);
    }

    private static void sortIs(String text, int price, int due) {
        CashLedger x = Ledgers.of(text);
        x.addAsset(price, 0, 12);
        Check.same("4: sort of " + price + " by " + text, x.asset(0, 3), due);
        Check.same("4: in the pool, " + price + " by " + text, x.pool(0), due == 1 ? price : 0);
        int written = due == 0 ? price : due == 1 ? 0 : price / 12;
        Check.same("4: written off, " + price + " by " + text, x.written(0, 0), written);
    }

    private static void sortsByDefault() {
        sortIs("top 5", 1, 0);
        sortIs("top 5", 80000, 0);
        sortIs("top 5", 80001, 1);
        sortIs("top 5", 100000, 1);
        sortIs("top 5", 100001, 2);
        sortIs("top 5", 5000000, 2);
    }

    private static void sortsOfASetup() {
        sortIs("assets 0 0", 1, 2);
        sortIs("assets 0 1", 1, 1);
        sortIs("assets 0 1", 2, 2);
        sortIs("assets 1 1", 1, 0);
        sortIs("assets 1 1", 2, 2);
        sortIs("assets 5 6", 5, 0);
        sortIs("assets 5 6", 6, 1);
        sortIs("assets 5 6", 7, 2);
        sortIs("assets 0 1000000", 1000000, 1);
        sortIs("assets 0 1000000", 1000001, 2);
        sortIs("assets 999999 1000000", 999999, 0);
        sortIs("assets 999999 1000000", 1000000, 1);
        sortIs("assets 1000000 1000000", 1000000, 0);
        sortIs("assets 1000000 1000000", 1000001, 2);
    }

    // ---- Promise 29

    private static void writtenNumbers() {
        Edge.numbers("29: of 3", Edge::busy, 3, (x, v) -> x.written(v, 0));
        Edge.numbers("29: of 12", Edge::full, 12, (x, v) -> x.written(v, 11));
        Edge.numbers("29: of none", CashLedger::new, 0, (x, v) -> x.written(v, 0));
        Edge.refused("29: number and month", Edge::busy, Edge.INDEX, x -> x.written(3, 12));
        Edge.refused("29: number and month below", Edge::busy, Edge.INDEX, x -> x.written(-1, -1));
    }

    private static void writtenMonths() {
        for (int asset = 0; asset < 3; asset++) {
            int number = asset;
            Edge.range("29: month of " + asset, Edge::busy, 0, 11, (x, v) -> x.written(number, v));
        }
    }

    private static CashLedger single(int price, int day, int life) {
        CashLedger x = Ledgers.of("assets 0 0");
        x.addAsset(price, day, life);
        return x;
    }

    private static void written(String what, CashLedger x, int... due) {
        int left = 0;
        for (int month = 0; month < 12; month++) {
            Check.same("29: " + what + ", month " + month, x.written(0, month), due[month]);
            left += due[month];
        }
        Check.same("29: " + what + ", in the profit of the year", x.profitTo(3) - x.balance(359) - x.asset(0, 0), -left);
    }

    private static void writtenOfSmallOnes() {
        int[] days = {0, 29, 30, 59, 330, 359};
        for (int day : days) {
            CashLedger x = new CashLedger();
            x.addAsset(80000, day, 120);
            int[] due = new int[12];
            due[day / 30] = 80000;
            written("small, bought on " + day, x, due);
            x.sellAsset(0, 359, 5);
            written("small and sold, bought on " + day, x, due);
        }
    }

    private static void writtenInTheMonthOfBuying() {
        written("bought on 29", single(1200, 29, 2), 600, 600, 0, 0, 0, 0, 0, 0, 0, 0, 0, 0);
        written("bought on 30", single(1200, 30, 2), 0, 600, 600, 0, 0, 0, 0, 0, 0, 0, 0, 0);
        written("bought on 59", single(1200, 59, 2), 0, 600, 600, 0, 0, 0, 0, 0, 0, 0, 0, 0);
        written("bought on 359", single(1200, 359, 2), 0, 0, 0, 0, 0, 0, 0, 0, 0, 0, 0, 600);
    }

    private static void writtenOverALife() {
        written("life 1", single(1200, 0, 1), 1200, 0, 0, 0, 0, 0, 0, 0, 0, 0, 0, 0);
        written("life 1, the last month", single(1200, 330, 1), 0, 0, 0, 0, 0, 0, 0, 0, 0, 0, 0, 1200);
        written("life 11", single(1100, 0, 11), 100, 100, 100, 100, 100, 100, 100, 100, 100, 100, 100, 0);
        written("life 12", single(1200, 0, 12), 100, 100, 100, 100, 100, 100, 100, 100, 100, 100, 100, 100);
    }

    private static void writtenBeyondTheYear() {
        written("life 13", single(1300, 0, 13), 100, 100, 100, 100, 100, 100, 100, 100, 100, 100, 100, 100);
        written("life 120", single(5000000, 0, 120), 41666, 41667, 41667, 41666, 41667, 41667, 41666, 41667, 41667, 41666,
                41667, 41667);
        written("life 2, half behind the year", single(3, 359, 2), 0, 0, 0, 0, 0, 0, 0, 0, 0, 0, 0, 1);
    }

    private static void writtenRoundsDown() {
        written("a price of 1", single(1, 0, 3), 0, 0, 1, 0, 0, 0, 0, 0, 0, 0, 0, 0);
        written("a price of 2", single(2, 0, 3), 0, 1, 1, 0, 0, 0, 0, 0, 0, 0, 0, 0);
        written("less than its life", single(5, 0, 120), 0, 0, 0, 0, 0, 0, 0, 0, 0, 0, 0, 0);
        written("a cent in a year", single(10, 0, 120), 0, 0, 0, 0, 0, 0, 0, 0, 0, 0, 0, 1);
        written("seven months", single(100, 150, 7), 0, 0, 0, 0, 0, 14, 14, 14, 15, 14, 14, 15);
    }

    private static CashLedger singleSold(int price, int day, int life, int sold) {
        CashLedger x = single(price, day, life);
        x.sellAsset(0, sold, 0);
        return x;
    }

    private static void writtenWhenSold() {
        written("sold on 59", singleSold(1200, 0, 12, 59), 100, 1100, 0, 0, 0, 0, 0, 0, 0, 0, 0, 0);
        written("sold on 60", singleSold(1200, 0, 12, 60), 100, 100, 1000, 0, 0, 0, 0, 0, 0, 0, 0, 0);
        written("sold on 89", singleSold(1200, 0, 12, 89), 100, 100, 1000, 0, 0, 0, 0, 0, 0, 0, 0, 0);
        written("sold on 90", singleSold(1200, 0, 12, 90), 100, 100, 100, 900, 0, 0, 0, 0, 0, 0, 0, 0);
        written("sold on 359", singleSold(1200, 0, 12, 359), 100, 100, 100, 100, 100, 100, 100, 100, 100, 100, 100, 100);
        written("sold on 359, of a long life", singleSold(1200, 300, 120, 359), 0, 0, 0, 0, 0, 0, 0, 0, 0, 0, 10, 1190);
    }

    private static void writtenWhenSoldInItsMonth() {
        written("sold on the day", singleSold(1200, 0, 12, 0), 1200, 0, 0, 0, 0, 0, 0, 0, 0, 0, 0, 0);
        written("sold on the month's last day", singleSold(1200, 30, 12, 59), 0, 1200, 0, 0, 0, 0, 0, 0, 0, 0, 0, 0);
        written("sold on the next day", singleSold(1200, 59, 12, 60), 0, 100, 1100, 0, 0, 0, 0, 0, 0, 0, 0, 0);
        written("sold on the last day", singleSold(1200, 359, 12, 359), 0, 0, 0, 0, 0, 0, 0, 0, 0, 0, 0, 1200);
    }

    private static void writtenWhenSoldAfterItsLife() {
        written("sold in its last month", singleSold(1200, 0, 2, 59), 600, 600, 0, 0, 0, 0, 0, 0, 0, 0, 0, 0);
        written("sold behind it", singleSold(1200, 0, 2, 60), 600, 600, 0, 0, 0, 0, 0, 0, 0, 0, 0, 0);
        written("sold long behind it", singleSold(1200, 0, 2, 359), 600, 600, 0, 0, 0, 0, 0, 0, 0, 0, 0, 0);
    }

    private static void writtenOfPooledOnes() {
        CashLedger x = Ledgers.of("assets 0 1000000");
        x.addAsset(1000000, 0, 1);
        x.addAsset(1, 359, 120);
        x.addAsset(1200, 100, 12);
        x.sellAsset(2, 100, 1);
        for (int asset = 0; asset < 3; asset++) {
            for (int month = 0; month < 12; month++) {
                Check.same("29: pooled, " + asset + " in " + month, x.written(asset, month), 0);
                Check.same("30: pooled, " + asset + " at the end of " + month, x.bookValue(asset, month), 0);
            }
        }
    }

    // ---- Promise 30

    private static void bookValueNumbers() {
        Edge.numbers("30: of 3", Edge::busy, 3, (x, v) -> x.bookValue(v, 0));
        Edge.numbers("30: of 12", Edge::full, 12, (x, v) -> x.bookValue(v, 11));
        Edge.numbers("30: of none", CashLedger::new, 0, (x, v) -> x.bookValue(v, 0));
        Edge.refused("30: number and month", Edge::busy, Edge.INDEX, x -> x.bookValue(3, 12));
        Edge.refused("30: number and month below", Edge::busy, Edge.INDEX, x -> x.bookValue(-1, -1));
    }

    private static void bookValueMonths() {
        for (int asset = 0; asset < 3; asset++) {
            int number = asset;
            Edge.range("30: month of " + asset, Edge::busy, 0, 11, (x, v) -> x.bookValue(number, v));
        }
    }

    private static void values(String what, CashLedger x, int... due) {
        for (int month = 0; month < 12; month++) {
            Check.same("30: " + what + ", month " + month, x.bookValue(0, month), due[month]);
        }
    }

    private static void bookValueBeforeBuying() {
        values("bought on 0", single(1200, 0, 3), 800, 400, 0, 0, 0, 0, 0, 0, 0, 0, 0, 0);
        values("bought on 29", single(1200, 29, 3), 800, 400, 0, 0, 0, 0, 0, 0, 0, 0, 0, 0);
        values("bought on 30", single(1200, 30, 3), 0, 800, 400, 0, 0, 0, 0, 0, 0, 0, 0, 0);
        values("bought on 359", single(1200, 359, 3), 0, 0, 0, 0, 0, 0, 0, 0, 0, 0, 0, 800);
        values("life 1", single(1200, 100, 1), 0, 0, 0, 0, 0, 0, 0, 0, 0, 0, 0, 0);
        CashLedger small = new CashLedger();
        small.addAsset(80000, 100, 12);
        values("small", small, 0, 0, 0, 0, 0, 0, 0, 0, 0, 0, 0, 0);
    }

    private static void bookValueBehindASale() {
        values("sold on 59", singleSold(1200, 0, 12, 59), 1100, 0, 0, 0, 0, 0, 0, 0, 0, 0, 0, 0);
        values("sold on 60", singleSold(1200, 0, 12, 60), 1100, 1000, 0, 0, 0, 0, 0, 0, 0, 0, 0, 0);
        values("sold in its month", singleSold(1200, 30, 12, 59), 0, 0, 0, 0, 0, 0, 0, 0, 0, 0, 0, 0);
        values("sold on 359", singleSold(1200, 270, 12, 359), 0, 0, 0, 0, 0, 0, 0, 0, 0, 1100, 1000, 0);
    }

    private static void bookValueRoundsUp() {
        values("a price of 1", single(1, 0, 3), 1, 1, 0, 0, 0, 0, 0, 0, 0, 0, 0, 0);
        values("life 7", single(100, 150, 7), 0, 0, 0, 0, 0, 86, 72, 58, 43, 29, 15, 0);
        CashLedger x = single(5000000, 359, 120);
        Check.same("30: the greatest value", x.bookValue(0, 11), 4958334);
    }

    // ---- Promises 31 and 32

    private static void poolRange() {
        Edge.range("31: quarter", Edge::busy, 0, 3, (x, v) -> x.pool(v));
        Edge.range("32: quarter", Edge::busy, 0, 3, (x, v) -> x.poolWritten(v));
    }

    private static void pools(String what, CashLedger x, int[] pool, int[] written) {
        for (int q = 0; q < 4; q++) {
            Check.same("31: " + what + ", quarter " + q, x.pool(q), pool[q]);
            Check.same("32: " + what + ", quarter " + q, x.poolWritten(q), written[q]);
        }
    }

    private static void poolOfNothing() {
        pools("no asset", new CashLedger(), new int[4], new int[4]);
    }

    private static CashLedger pooled(int price, int day) {
        CashLedger x = Ledgers.of("assets 0 1000000");
        x.addAsset(price, day, 5);
        return x;
    }

    private static void poolAtTheEdgesOfQuarters() {
        int[][] written = {{50, 50, 50, 50}, {0, 100, 50, 50}, {0, 0, 150, 50}, {0, 0, 0, 200}};
        for (int q = 0; q < 4; q++) {
            int[] pool = new int[4];
            for (int later = q; later < 4; later++) {
                pool[later] = 1000;
            }
            pools("bought on the first day of " + q, pooled(1000, 90 * q), pool, written[q]);
            pools("bought on the last day of " + q, pooled(1000, 90 * q + 89), pool, written[q]);
        }
    }

    private static void poolCountsSoldOnes() {
        CashLedger x = pooled(1000, 0);
        x.sellAsset(0, 0, 0);
        pools("sold on the day", x, new int[] {1000, 1000, 1000, 1000}, new int[] {50, 50, 50, 50});
        CashLedger y = pooled(1000, 90);
        y.sellAsset(0, 359, 5000000);
        pools("sold on the last day", y, new int[] {0, 1000, 1000, 1000}, new int[] {0, 100, 50, 50});
    }

    private static void poolCountsPooledOnesOnly() {
        CashLedger x = new CashLedger();
        x.addAsset(80000, 0, 5);
        x.addAsset(100001, 0, 5);
        pools("small and single ones", x, new int[4], new int[4]);
        x.addAsset(80001, 0, 5);
        x.addAsset(100000, 90, 5);
        pools("among them", x, new int[] {80001, 180001, 180001, 180001}, new int[] {4000, 14000, 9000, 9000});
    }

    private static void poolWrittenRoundsDown() {
        pools("a price of 1", pooled(1, 0), new int[] {1, 1, 1, 1}, new int[] {0, 0, 0, 0});
        pools("a price of 5", pooled(5, 0), new int[] {5, 5, 5, 5}, new int[] {0, 0, 0, 1});
        pools("a price of 19", pooled(19, 0), new int[] {19, 19, 19, 19}, new int[] {0, 1, 1, 1});
        pools("a price of 20", pooled(20, 0), new int[] {20, 20, 20, 20}, new int[] {1, 1, 1, 1});
        CashLedger x = pooled(10, 0);
        x.addAsset(10, 89, 5);
        pools("two together, rounded once", x, new int[] {20, 20, 20, 20}, new int[] {1, 1, 1, 1});
    }

    private static void poolOfTwelve() {
        CashLedger x = Ledgers.of("assets 0 1000000");
        for (int i = 0; i < 12; i++) {
            x.addAsset(1000000, 30 * i, 1);
        }
        pools("one a month", x, new int[] {3000000, 6000000, 9000000, 12000000},
                new int[] {150000, 450000, 750000, 1050000});
    }
}
