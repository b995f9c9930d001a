/** Boundaries of section 8 and promises 46 to 49: the first and the last day, months, and any number to be below. */
public final class BalanceEdgesTest {
    public static void main(String[] args) {
        balanceRange();
        balanceOfTheStart();
        balanceByKind();
        balanceOfAssets();
        balanceOfPrepayments();
        balanceOfWhatDoesNotCount();
        greatestAndLeastBalance();
        lowestDayOfNothing();
        lowestDayAtTheEdges();
        lowestDayIsTheFirst();
        daysBelowOfNothing();
        daysBelowIsLess();
        daysBelowOfAnyNumber();
        daysBelowCountsDays();
        bestMonthOfNothing();
        bestMonthAtTheEdges();
        bestMonthIsTheFirst();
        bestMonthOfSales();
        bestMonthOfWhatDoesNotCount();
        Check.end();
    }

    private static void balanceRange() {
        Edge.range("46: day", Edge::busy, 0, 359, (x, v) -> x.balance(v));
        Edge.range("46: day of a new one", CashLedger::new, 0, 359, (x, v) -> x.balance(v));
        Edge.refused("46: no day", Edge::busy, Edge.ARGUMENT, x -> x.balance(Edge.NONE));
    }

    private static void balanceOfTheStart() {
        for (int day = 0; day < 360; day++) {
            Check.same("46: nothing, day " + day, new CashLedger().balance(day), 0);
        }
        Check.same("46: a start, first day", Ledgers.of("start 10000000").balance(0), 10000000);
        Check.same("46: a start, last day", Ledgers.of("start 10000000").balance(359), 10000000);
    }

    private static void steps(String what, CashLedger x, int day, long before, long from) {
        if (day > 0) {
            Check.same("46: " + what + ", the day before " + day, x.balance(day - 1), before);
        }
        Check.same("46: " + what + ", day " + day, x.balance(day), from);
        Check.same("46: " + what + " on " + day + ", the last day", x.balance(359), from);
    }

    private static void balanceByKind() {
        for (int day : new int[] {0, 1, 29, 30, 180, 358, 359}) {
            for (int kind = 0; kind <= 3; kind++) {
                CashLedger x = Ledgers.of("room 2 office 0 359;room 3");
                x.addEntry(kind, 0, 10000000, 0, day);
                steps("whole amounts, kind " + kind, x, day, 0, kind == 0 ? 10000000 : -10000000);
            }
        }
    }

    private static void balanceOfAssets() {
        for (int price : new int[] {80000, 80001, 100001}) {
            for (int day : new int[] {0, 30, 359}) {
                CashLedger x = new CashLedger();
                x.addAsset(price, day, 120);
                steps("bought for " + price, x, day, 0, -price);
                x.sellAsset(0, day, 5);
                steps("sold on the same day, " + price, x, day, 0, 5 - price);
            }
            CashLedger x = new CashLedger();
            x.addAsset(price, 0, 120);
            x.sellAsset(0, 359, 5000000);
            steps("sold on the last day, " + price, x, 359, -price, 5000000 - price);
        }
    }

    private static void balanceOfPrepayments() {
        CashLedger x = Ledgers.of("top 500");
        for (int q = 0; q < 4; q++) {
            x.addEntry(0, 0, 1000, 0, 90 * q);
        }
        for (int q = 0; q < 4; q++) {
            Check.same("46: not closed yet, " + q, x.balance(90 * q + 89), 500 * q + 1000);
            x.closeQuarter();
            Check.same("46: the day before the last, " + q, x.balance(90 * q + 88), 500 * q + 1000);
            Check.same("46: the last day of the quarter, " + q, x.balance(90 * q + 89), 500 * q + 500);
        }
        Check.same("46: all prepayments", x.balance(359), 2000);
        for (int entry = 0; entry < 4; entry++) {
            x.cancel(entry);
        }
        Check.same("46: they stay as they were", x.balance(359), -2000);
    }

    private static void balanceOfWhatDoesNotCount() {
        CashLedger x = new CashLedger();
        for (int kind = 0; kind <= 3; kind++) {
            x.addEntry(kind, 0, 100, 0, Edge.NONE);
            x.addEntry(kind, 0, 100, 0, 0);
            x.cancel(2 * kind + 1);
        }
        steps("open and cancelled ones", x, 0, 0, 0);
    }

    private static void greatestAndLeastBalance() {
        CashLedger most = Ledgers.of("start 10000000");
        CashLedger least = new CashLedger();
        least.setStart(-10000000);
        for (int i = 0; i < 60; i++) {
            most.addEntry(0, 0, 10000000, 0, 0);
            least.addEntry(3, 0, 10000000, 0, 359);
        }
        for (int i = 0; i < 12; i++) {
            most.addAsset(1, 0, 1);
            most.sellAsset(i, 0, 5000000);
            least.addAsset(5000000, 359, 1);
        }
        Check.same("46: the greatest", most.balance(0), 669999988);
        Check.same("46: the greatest, last day", most.balance(359), 669999988);
        Check.same("46: before the least", least.balance(358), -10000000);
        Check.same("46: the least", least.balance(359), -670000000);
        Check.same("47: of the least", least.lowestDay(), 359);
        Check.same("48: of the least", least.daysBelow(-10000000), 1);
        Check.same("48: of the greatest", most.daysBelow(Integer.MAX_VALUE), 360);
    }

    // ---- Promise 47

    private static void lowestDayOfNothing() {
        Check.same("47: nothing", new CashLedger().lowestDay(), 0);
        Check.same("47: only a start", Ledgers.of("start 5").lowestDay(), 0);
        CashLedger x = new CashLedger();
        x.setStart(-5);
        Check.same("47: only debts", x.lowestDay(), 0);
        x.addEntry(0, 0, 1, 0, 0);
        Check.same("47: more from the first day on", x.lowestDay(), 0);
    }

    private static void lowestDayAtTheEdges() {
        for (int day : new int[] {0, 1, 29, 30, 180, 358, 359}) {
            CashLedger x = new CashLedger();
            x.addEntry(1, 0, 1, 0, day);
            Check.same("47: paid on " + day, x.lowestDay(), day);
            if (day < 359) {
                x.addEntry(0, 0, 1, 0, day + 1);
                Check.same("47: only on " + day, x.lowestDay(), day);
            }
        }
        CashLedger x = Ledgers.of("top 500");
        x.addEntry(0, 0, 1000, 0, 0);
        x.addEntry(3, 0, 400, 0, 1);
        x.closeQuarter();
        Check.same("47: the day of a prepayment", x.lowestDay(), 89);
    }

    private static void lowestDayIsTheFirst() {
        CashLedger x = new CashLedger();
        x.addEntry(1, 0, 5, 0, 10);
        x.addEntry(0, 0, 5, 0, 20);
        x.addEntry(1, 0, 5, 0, 359);
        Check.same("47: the first of two", x.lowestDay(), 10);
        x.addEntry(1, 0, 1, 0, 359);
        Check.same("47: a cent less", x.lowestDay(), 359);
        x.addEntry(0, 0, 2, 0, 359);
        Check.same("47: a cent more", x.lowestDay(), 10);
        CashLedger y = new CashLedger();
        y.addEntry(0, 0, 5, 0, 1);
        y.addEntry(1, 0, 5, 0, 359);
        Check.same("47: day 0 of two", y.lowestDay(), 0);
    }

    // ---- Promise 48

    private static void daysBelowOfNothing() {
        CashLedger x = new CashLedger();
        Check.same("48: nothing is not less than 0", x.daysBelow(0), 0);
        Check.same("48: all are less than 1", x.daysBelow(1), 360);
        Check.same("48: none is less than -1", x.daysBelow(-1), 0);
    }

    private static void daysBelowIsLess() {
        CashLedger x = Ledgers.of("start 100");
        x.addEntry(0, 0, 1, 0, 120);
        int[] balances = {99, 100, 101, 102};
        int[] due = {0, 0, 120, 360};
        for (int i = 0; i < balances.length; i++) {
            Check.same("48: less than " + balances[i], x.daysBelow(balances[i]), due[i]);
        }
        CashLedger y = new CashLedger();
        y.setStart(-100);
        Check.same("48: not less than debts", y.daysBelow(-100), 0);
        Check.same("48: less than fewer debts", y.daysBelow(-99), 360);
    }

    private static void daysBelowOfAnyNumber() {
        for (CashLedger x : new CashLedger[] {new CashLedger(), Edge.busy(), Edge.full()}) {
            Check.same("48: the least number", x.daysBelow(Integer.MIN_VALUE), 0);
            Check.same("48: the greatest number", x.daysBelow(Integer.MAX_VALUE), 360);
        }
    }

    private static void daysBelowCountsDays() {
        for (int day : new int[] {0, 1, 30, 358, 359}) {
            CashLedger x = new CashLedger();
            x.addEntry(1, 0, 1, 0, day);
            Check.same("48: less from day " + day, x.daysBelow(0), 360 - day);
            x.setStart(-1);
            x.pay(0, Edge.NONE);
            x.addEntry(0, 0, 1, 0, day);
            Check.same("48: less before day " + day, x.daysBelow(0), day);
        }
    }

    // ---- Promise 49

    private static void bestMonthOfNothing() {
        Check.same("49: nothing came in", new CashLedger().bestMonth(), 0);
        CashLedger x = new CashLedger();
        x.addEntry(1, 0, 10000000, 0, 0);
        x.addAsset(5000000, 100, 1);
        Check.same("49: only paid", x.bestMonth(), 0);
        x.sellAsset(0, 359, 0);
        Check.same("49: sold for nothing", x.bestMonth(), 0);
    }

    private static void bestMonthAtTheEdges() {
        for (int month = 0; month < 12; month++) {
            for (int day : new int[] {30 * month, 30 * month + 29}) {
                CashLedger x = new CashLedger();
                x.addEntry(0, 0, 1, 0, day);
                Check.same("49: an income on " + day, x.bestMonth(), month);
            }
            CashLedger x = new CashLedger();
            x.addEntry(0, 0, 2, 0, 30 * month);
            x.addEntry(0, 0, 2, 0, 30 * month + 29);
            x.addEntry(0, 0, 3, 0, (30 * month + 359) % 360);
            x.addEntry(0, 0, 3, 0, (30 * month + 30) % 360);
            Check.same("49: both edges of " + month, x.bestMonth(), month);
        }
    }

    private static void bestMonthIsTheFirst() {
        CashLedger x = new CashLedger();
        for (int month = 11; month >= 0; month--) {
            x.addEntry(0, 0, 5, 0, 30 * month);
            Check.same("49: the first one of some, " + month, x.bestMonth(), month);
        }
        x.addEntry(0, 0, 1, 0, 359);
        Check.same("49: a cent more", x.bestMonth(), 11);
        x.addEntry(0, 0, 1, 0, 300);
        Check.same("49: as much before", x.bestMonth(), 10);
    }

    private static void bestMonthOfSales() {
        for (int day : new int[] {0, 29, 30, 329, 330, 359}) {
            CashLedger x = new CashLedger();
            x.addAsset(5, 0, 1);
            x.sellAsset(0, day, 3);
            x.addEntry(0, 0, 2, 0, day < 180 ? 200 : 100);
            Check.same("49: sold on " + day, x.bestMonth(), day / 30);
            x.addEntry(0, 0, 2, 0, day < 180 ? 200 : 100);
            Check.same("49: less than two incomes, " + day, x.bestMonth(), day < 180 ? 6 : 3);
        }
        CashLedger x = new CashLedger();
        x.addAsset(5, 0, 1);
        x.sellAsset(0, 100, 3);
        x.addEntry(0, 0, 3, 0, 90);
        x.addEntry(0, 0, 5, 0, 300);
        Check.same("49: a sale and an income together", x.bestMonth(), 3);
    }

    private static void bestMonthOfWhatDoesNotCount() {
        CashLedger x = new CashLedger();
        x.addEntry(0, 0, 1, 0, 330);
        x.addEntry(0, 0, 9, 0, Edge.NONE);
        x.addEntry(0, 0, 9, 0, 60);
        x.cancel(2);
        for (int kind = 1; kind <= 3; kind++) {
            x.addEntry(kind, 0, 9, 0, 90);
        }
        Check.same("49: only incomes that count", x.bestMonth(), 11);
    }
}
