/** Boundaries of promises 19 to 27, and of sections 1 to 3: entries, months, quarters and rooms that are asked for. */
public final class EntryEdgesTest {
    public static void main(String[] args) {
        countWhat();
        countOfNothing();
        countOfEverything();
        countOfOneOfEach();
        entryNumbers();
        entryWhat();
        entryChecksTheNumberFirst();
        entryOfAnOpenOne();
        deductibleNumbers();
        deductibleOfWhatDoesNotCount();
        deductibleByKind();
        deductibleWithoutRooms();
        deductibleInTheMonthOfPaying();
        deductibleRoundsDown();
        totalRanges();
        totalDays();
        totalOfNothing();
        totalOfEverything();
        byCategoryRange();
        byCategoryEdges();
        byCategoryOfTheWholeYear();
        openRange();
        openEdges();
        oldestOpenOfNone();
        oldestOpenByDay();
        oldestOpenByNumber();
        roomNumbers();
        roomWhat();
        roomChecksTheNumberFirst();
        shareRange();
        shareOfNothing();
        shareOfWholeMonths();
        shareAtTheEdgesOfMonths();
        shareInLowestTerms();
        shareOfSixRooms();
        Check.end();
    }

    // ---- Promise 19

    private static void countWhat() {
        Edge.range("19: what", CashLedger::new, 0, 8, (x, v) -> x.count(v));
        Edge.range("19: what of a full ledger", Edge::full, 0, 8, (x, v) -> x.count(v));
    }

    private static void counts(String what, CashLedger x, int... due) {
        for (int i = 0; i < due.length; i++) {
            Check.same("19: " + what + " (" + i + ")", x.count(i), due[i]);
        }
    }

    private static void countOfNothing() {
        counts("nothing", new CashLedger(), 0, 0, 0, 0, 0, 0, 0, 0, 2);
        counts("nothing at all", Ledgers.of("top 5"), 0, 0, 0, 0, 0, 0, 0, 0, 0);
    }

    private static void countOfEverything() {
        counts("full", Edge.full(), 60, 0, 0, 0, 6, 12, 0, 4, 5);
        CashLedger open = new CashLedger();
        for (int i = 0; i < 60; i++) {
            open.addEntry(i % 4, 0, 1, 0, Edge.NONE);
        }
        counts("all open", open, 60, 60, 0, 0);
        for (int i = 0; i < 60; i++) {
            open.cancel(i);
        }
        counts("all cancelled", open, 60, 0, 60, 0);
        CashLedger late = new CashLedger();
        for (int q = 0; q < 4; q++) {
            late.closeQuarter();
        }
        for (int i = 0; i < 60; i++) {
            late.addEntry(i % 4, 0, 1, 0, 359);
        }
        counts("all late", late, 60, 0, 0, 60, 0, 0, 0, 4);
        for (int i = 0; i < 12; i++) {
            late.addAsset(1, 0, 1);
            late.sellAsset(i, 359, 0);
        }
        counts("all sold", late, 60, 0, 0, 60, 0, 12, 12, 4);
    }

    private static void countOfOneOfEach() {
        CashLedger x = Ledgers.of("bracket 1 1;room 1");
        x.addEntry(0, 0, 1, 0, Edge.NONE);
        counts("one open", x, 1, 1, 0, 0, 1, 0, 0, 0, 1);
        x.cancel(0);
        counts("one cancelled", x, 1, 0, 1, 0, 1, 0, 0, 0, 1);
        x.addAsset(1, 0, 1);
        x.sellAsset(0, 0, 0);
        counts("one sold on day 0 for nothing", x, 1, 0, 1, 0, 1, 1, 1, 0, 1);
        x.closeQuarter();
        x.addEntry(0, 0, 1, 0, 0);
        counts("one late on day 0", x, 2, 0, 1, 1, 1, 1, 1, 1, 1);
        x.pay(1, Edge.NONE);
        counts("late and open", x, 2, 1, 1, 1);
        x.pay(1, 0);
        counts("late and paid", x, 2, 0, 1, 1);
    }

    // ---- Promise 20

    private static void entryNumbers() {
        Edge.numbers("20: of 6", Edge::busy, 6, (x, v) -> x.entry(v, 0));
        Edge.numbers("20: of 60", Edge::full, 60, (x, v) -> x.entry(v, 6));
        Edge.numbers("20: of none", CashLedger::new, 0, (x, v) -> x.entry(v, 0));
    }

    private static void entryWhat() {
        Edge.range("20: what", Edge::busy, 0, 6, (x, v) -> x.entry(5, v));
        int[] last = {3, 9, 1059, 59, 354, 0, 0};
        CashLedger x = Edge.full();
        for (int what = 0; what <= 6; what++) {
            Check.same("20: the last of sixty, " + what, x.entry(59, what), last[what]);
        }
    }

    private static void entryChecksTheNumberFirst() {
        Edge.refused("20: number and what", Edge::busy, Edge.INDEX, x -> x.entry(6, 7));
        Edge.refused("20: number and what below", Edge::busy, Edge.INDEX, x -> x.entry(-1, -1));
    }

    private static void entryOfAnOpenOne() {
        CashLedger x = new CashLedger();
        x.addEntry(0, 0, 1, 0, Edge.NONE);
        Check.same("20: NONE if it is open", x.entry(0, 4), -1);
        x.pay(0, 0);
        Check.same("20: day 0 is not open", x.entry(0, 4), 0);
        x.pay(0, Edge.NONE);
        Check.same("20: opened again", x.entry(0, 4), -1);
    }

    // ---- Promise 21

    private static void deductibleNumbers() {
        Edge.numbers("21: of 6", Edge::busy, 6, (x, v) -> x.deductible(v));
        Edge.numbers("21: of 60", Edge::full, 60, (x, v) -> x.deductible(v));
        Edge.numbers("21: of none", CashLedger::new, 0, (x, v) -> x.deductible(v));
    }

    private static void deductibleOfWhatDoesNotCount() {
        CashLedger x = Ledgers.of("room 1 office 0 359");
        for (int kind = 0; kind <= 3; kind++) {
            x.addEntry(kind, 0, 100, 0, Edge.NONE);
            Check.same("21: open, kind " + kind, x.deductible(kind), 0);
            x.pay(kind, 0);
            Check.same("21: paid, kind " + kind, x.deductible(kind), kind == 1 || kind == 2 ? 100 : 0);
            x.cancel(kind);
            Check.same("21: cancelled, kind " + kind, x.deductible(kind), 0);
        }
    }

    private static void deductibleByKind() {
        CashLedger x = Ledgers.of("room 1 office 0 359");
        int[] due = {0, 10000000, 10000000, 0};
        for (int kind = 0; kind <= 3; kind++) {
            x.addEntry(kind, 0, 10000000, 0, 359);
            Check.same("21: the greatest of kind " + kind, x.deductible(kind), due[kind]);
        }
    }

    private static void deductibleWithoutRooms() {
        CashLedger x = new CashLedger();
        x.addEntry(2, 0, 10000000, 0, 0);
        Check.same("3: share 0 without rooms", x.deductible(0), 0);
        x.addRoom(1);
        Check.same("3: share 0 without office use", x.deductible(0), 0);
        x.setOffice(0, 0, 0);
        Check.same("3: one day of thirty", x.deductible(0), 333333);
        x.setOffice(0, 30, 359);
        Check.same("3: another month", x.deductible(0), 0);
    }

    private static void deductibleInTheMonthOfPaying() {
        CashLedger x = Ledgers.of("room 1 office 30 59");
        int[] days = {0, 29, 30, 59, 60, 359};
        int[] due = {0, 0, 100, 100, 0, 0};
        x.addEntry(2, 0, 100, 30, Edge.NONE);
        for (int i = 0; i < days.length; i++) {
            x.pay(0, days[i]);
            Check.same("2: paid on " + days[i], x.deductible(0), due[i]);
        }
    }

    private static void deductibleRoundsDown() {
        CashLedger x = Ledgers.of("room 1 office 0 0;room 2");
        // The share is 1 / 90.
        int[] amounts = {1, 89, 90, 91, 179, 180, 10000000};
        int[] due = {0, 0, 1, 1, 1, 2, 111111};
        for (int i = 0; i < amounts.length; i++) {
            x.addEntry(2, 0, amounts[i], 0, 29);
            Check.same("2: rounded down, " + amounts[i], x.deductible(i), due[i]);
        }
        CashLedger y = Ledgers.of("room 500 office 0 28;room 500 office 0 29;room 500 office 0 29;room 500 office 0 29;"
                + "room 500 office 0 29;room 500 office 0 29");
        y.addEntry(2, 0, 10000000, 0, 0);
        Check.same("2: the greatest areas", y.deductible(0), 9944444);
    }

    // ---- Promise 22

    private static void totalRanges() {
        Edge.range("22: kind", Edge::busy, 0, 3, (x, v) -> x.total(v, 0, 359));
        Edge.range("22: from", Edge::busy, 0, 359, (x, v) -> x.total(0, v, 359));
        for (int from : new int[] {0, 1, 100, 358, 359}) {
            Edge.range("22: to, from " + from, Edge::busy, from, 359, (x, v) -> x.total(0, from, v));
        }
        Edge.refused("22: both too great", Edge::busy, Edge.ARGUMENT, x -> x.total(0, 360, 360));
        Edge.refused("22: both too small", Edge::busy, Edge.ARGUMENT, x -> x.total(0, -1, -1));
    }

    private static void totalDays() {
        CashLedger x = new CashLedger();
        x.addEntry(0, 0, 1, 0, 0);
        x.addEntry(0, 0, 10, 0, 100);
        x.addEntry(0, 0, 100, 0, 101);
        x.addEntry(0, 0, 1000, 0, 359);
        int[][] due = {{0, 0, 1}, {0, 99, 1}, {0, 100, 11}, {1, 100, 10}, {100, 100, 10}, {100, 101, 110}, {101, 358, 100},
            {101, 359, 1100}, {102, 358, 0}, {359, 359, 1000}, {0, 359, 1111}, {1, 358, 110}};
        for (int[] row : due) {
            Check.same("22: from " + row[0] + " to " + row[1], x.total(0, row[0], row[1]), row[2]);
        }
    }

    private static void totalOfNothing() {
        CashLedger x = new CashLedger();
        for (int kind = 0; kind <= 3; kind++) {
            Check.same("22: no entry of kind " + kind, x.total(kind, 0, 359), 0);
            x.addEntry(kind, 0, 5, 0, Edge.NONE);
            Check.same("22: only open ones of " + kind, x.total(kind, 0, 359), 0);
            x.pay(kind, 7);
            Check.same("22: paid of " + kind, x.total(kind, 0, 359), 5);
            x.cancel(kind);
            Check.same("22: only cancelled ones of " + kind, x.total(kind, 0, 359), 0);
        }
    }

    private static void totalOfEverything() {
        CashLedger x = new CashLedger();
        for (int i = 0; i < 60; i++) {
            x.addEntry(3, 0, 10000000, 0, 359);
        }
        Check.same("22: the greatest sum", x.total(3, 359, 359), 600000000);
        Check.same("22: of another kind", x.total(0, 0, 359), 0);
    }

    // ---- Promises 23 and 24

    private static void byCategoryRange() {
        Edge.range("23: category of incomes", Edge::busy, 0, 9, (x, v) -> x.byCategory(v, true));
        Edge.range("23: category of deductible parts", Edge::busy, 0, 9, (x, v) -> x.byCategory(v, false));
    }

    private static void byCategoryEdges() {
        CashLedger x = new CashLedger();
        x.addEntry(0, 0, 1, 0, 0);
        x.addEntry(0, 9, 10, 0, 359);
        x.addEntry(1, 0, 100, 0, 359);
        x.addEntry(1, 9, 1000, 0, 0);
        Check.same("23: incomes of 0", x.byCategory(0, true), 1);
        Check.same("23: incomes of 9", x.byCategory(9, true), 10);
        Check.same("23: deductible of 0", x.byCategory(0, false), 100);
        Check.same("23: deductible of 9", x.byCategory(9, false), 1000);
        for (int category = 1; category <= 8; category++) {
            Check.same("23: no income of " + category, x.byCategory(category, true), 0);
            Check.same("23: nothing deductible of " + category, x.byCategory(category, false), 0);
        }
    }

    private static void byCategoryOfTheWholeYear() {
        CashLedger x = Ledgers.of("room 1 office 0 14");
        for (int i = 0; i < 12; i++) {
            x.addEntry(0, 5, 1, 0, 30 * i);
            x.addEntry(0, 5, 100, 0, 30 * i + 29);
            x.addEntry(1, 5, 10, 0, 30 * i);
            x.addEntry(2, 5, 10, 0, 30 * i);
            x.addEntry(3, 5, 5000, 0, 30 * i);
        }
        Check.same("23: incomes of all months", x.byCategory(5, true), 1212);
        Check.same("23: deductible parts of all months", x.byCategory(5, false), 120 + 5);
        CashLedger y = Ledgers.of("room 3 office 0 14");
        for (int i = 0; i < 60; i++) {
            y.addEntry(2, 5, 1, 0, 0);
        }
        Check.same("23: each part rounded down", y.byCategory(5, false), 0);
        CashLedger first = new CashLedger();
        first.addEntry(1, 5, 7, 0, 0);
        Check.same("23: the first entry", first.byCategory(5, false), 7);
    }

    private static void openRange() {
        Edge.range("24: kind", Edge::busy, 0, 3, (x, v) -> x.open(v));
    }

    private static void openEdges() {
        CashLedger x = new CashLedger();
        for (int kind = 0; kind <= 3; kind++) {
            Check.same("24: none of kind " + kind, x.open(kind), 0);
            x.addEntry(kind, 0, 7, 359, Edge.NONE);
            Check.same("24: one of kind " + kind, x.open(kind), 7);
            x.pay(kind, 0);
            Check.same("24: paid on day 0, kind " + kind, x.open(kind), 0);
            x.pay(kind, Edge.NONE);
            x.cancel(kind);
            Check.same("24: cancelled, kind " + kind, x.open(kind), 0);
        }
        CashLedger y = new CashLedger();
        for (int i = 0; i < 60; i++) {
            y.addEntry(3, 0, 10000000, 0, Edge.NONE);
        }
        Check.same("24: the greatest sum", y.open(3), 600000000);
    }

    // ---- Promise 25

    private static void oldestOpenOfNone() {
        Edge.refused("25: no entry", CashLedger::new, Edge.ELEMENT, x -> x.oldestOpen());
        Edge.refused("25: all are paid", Edge::full, Edge.ELEMENT, x -> x.oldestOpen());
        Edge.refused("25: all are cancelled", EntryEdgesTest::onlyCancelled, Edge.ELEMENT, x -> x.oldestOpen());
    }

    private static CashLedger onlyCancelled() {
        CashLedger x = new CashLedger();
        x.addEntry(0, 0, 1, 0, Edge.NONE);
        x.cancel(0);
        x.addEntry(0, 0, 1, 0, 0);
        return x;
    }

    private static void oldestOpenByDay() {
        CashLedger x = new CashLedger();
        x.addEntry(0, 0, 1, 359, Edge.NONE);
        Check.same("25: the only one, of the last day", x.oldestOpen(), 0);
        x.addEntry(1, 0, 1, 358, Edge.NONE);
        Check.same("25: a day earlier", x.oldestOpen(), 1);
        x.addEntry(2, 0, 1, 0, 5);
        Check.same("25: a paid one is none", x.oldestOpen(), 1);
        x.pay(2, Edge.NONE);
        Check.same("25: of the first day", x.oldestOpen(), 2);
        x.cancel(2);
        x.pay(1, 0);
        Check.same("25: the first one again", x.oldestOpen(), 0);
        CashLedger y = Edge.full();
        y.pay(59, Edge.NONE);
        Check.same("25: the last of sixty", y.oldestOpen(), 59);
    }

    private static void oldestOpenByNumber() {
        CashLedger x = new CashLedger();
        for (int i = 0; i < 60; i++) {
            x.addEntry(i % 4, 0, 1, 7, Edge.NONE);
        }
        for (int i = 0; i < 59; i++) {
            Check.same("25: the lowest number " + i, x.oldestOpen(), i);
            if (i % 2 == 0) {
                x.cancel(i);
            } else {
                x.pay(i, 0);
            }
        }
        Check.same("25: the last number", x.oldestOpen(), 59);
    }

    // ---- Promises 26 and 27

    private static void roomNumbers() {
        Edge.numbers("26: of 2", Edge::busy, 2, (x, v) -> x.room(v, 0));
        Edge.numbers("26: of 6", Edge::full, 6, (x, v) -> x.room(v, 2));
        Edge.numbers("26: of none", CashLedger::new, 0, (x, v) -> x.room(v, 0));
    }

    private static void roomWhat() {
        Edge.range("26: what", Edge::busy, 0, 2, (x, v) -> x.room(1, v));
        CashLedger x = Ledgers.of("room 500 office 0 359;room 1");
        int[][] due = {{500, 0, 359}, {1, -1, -1}};
        for (int room = 0; room < 2; room++) {
            for (int what = 0; what <= 2; what++) {
                Check.same("26: room " + room + ", " + what, x.room(room, what), due[room][what]);
            }
        }
    }

    private static void roomChecksTheNumberFirst() {
        Edge.refused("26: number and what", Edge::busy, Edge.INDEX, x -> x.room(2, 3));
        Edge.refused("26: number and what below", Edge::busy, Edge.INDEX, x -> x.room(-1, -1));
    }

    private static void shareRange() {
        Edge.range("27: month, numerator", Edge::busy, 0, 11, (x, v) -> x.share(v, false));
        Edge.range("27: month, denominator", Edge::busy, 0, 11, (x, v) -> x.share(v, true));
        Edge.range("27: month without rooms", CashLedger::new, 0, 11, (x, v) -> x.share(v, true));
    }

    private static void shareIs(CashLedger x, int month, int numerator, int denominator) {
        Check.same("27: numerator of " + month, x.share(month, false), numerator);
        Check.same("27: denominator of " + month, x.share(month, true), denominator);
    }

    private static void shareOfNothing() {
        for (int month = 0; month < 12; month++) {
            shareIs(new CashLedger(), month, 0, 1);
            shareIs(Ledgers.of("room 500;room 1"), month, 0, 1);
        }
    }

    private static void shareOfWholeMonths() {
        CashLedger x = Ledgers.of("room 7 office 0 359");
        CashLedger y = Ledgers.of("room 7 office 0 359;room 7");
        for (int month = 0; month < 12; month++) {
            shareIs(x, month, 1, 1);
            shareIs(y, month, 1, 2);
        }
    }

    private static void shareAtTheEdgesOfMonths() {
        for (int month = 0; month < 12; month++) {
            CashLedger x = Ledgers.of("room 7");
            x.setOffice(0, 30 * month, 30 * month + 29);
            for (int other = 0; other < 12; other++) {
                shareIs(x, other, other == month ? 1 : 0, 1);
            }
            x.setOffice(0, 30 * month, 30 * month);
            shareIs(x, month, 1, 30);
            x.setOffice(0, 30 * month + 29, 30 * month + 29);
            shareIs(x, month, 1, 30);
            if (month > 0) {
                shareIs(x, month - 1, 0, 1);
                x.setOffice(0, 30 * month - 1, 30 * month);
                shareIs(x, month - 1, 1, 30);
                shareIs(x, month, 1, 30);
            }
        }
    }

    private static void shareInLowestTerms() {
        CashLedger x = Ledgers.of("room 1");
        int[][] due = {{1, 30}, {1, 15}, {1, 10}, {2, 15}, {1, 6}, {1, 5}, {7, 30}, {4, 15}, {3, 10}, {1, 3}};
        for (int days = 1; days <= 10; days++) {
            x.setOffice(0, 60, 59 + days);
            shareIs(x, 2, due[days - 1][0], due[days - 1][1]);
        }
        x.setOffice(0, 61, 89);
        shareIs(x, 2, 29, 30);
    }

    private static void shareOfSixRooms() {
        CashLedger x = Ledgers.of("room 500;room 500;room 500;room 500;room 500;room 499 office 0 0");
        shareIs(x, 0, 499, 89970);
        for (int room = 0; room < 6; room++) {
            x.setOffice(room, 0, 359);
        }
        shareIs(x, 0, 1, 1);
        shareIs(x, 11, 1, 1);
        x.setOffice(5, 0, 358);
        shareIs(x, 11, 89471, 89970);
    }
}
