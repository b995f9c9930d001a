import java.util.NoSuchElementException;
import java.util.function.Consumer;
import java.util.function.Supplier;

/** What the tests of boundaries share: calls that are accepted, and calls that are refused and change nothing. */
final class Edge {
    static final Class<IllegalArgumentException> ARGUMENT = IllegalArgumentException.class;
    static final Class<IllegalStateException> STATE = IllegalStateException.class;
    static final Class<IndexOutOfBoundsException> INDEX = IndexOutOfBoundsException.class;
    static final Class<NoSuchElementException> ELEMENT = NoSuchElementException.class;
    static final int NONE = CashLedger.NONE;

    interface Call {
        void on(CashLedger x, int value);
    }

    private Edge() {
    }

    static void accepted(String what, Supplier<CashLedger> maker, Consumer<CashLedger> call) {
        String got = "nothing";
        try {
            call.accept(maker.get());
        } catch (RuntimeException e) {
            got = e.getClass().getName();
        }
        Check.same(what + " throws", got, "nothing");
    }

    /** The exception that is due, and a ledger that answers as if the call had never been. */
    static void refused(String what, Supplier<CashLedger> maker, Class<? extends Exception> due,
            Consumer<CashLedger> call) {
        Check.fails(what, due, () -> call.accept(maker.get()));
        Check.same(what + " changes nothing", Picture.of(() -> afterRefusal(maker, call)), Picture.of(maker));
    }

    private static CashLedger afterRefusal(Supplier<CashLedger> maker, Consumer<CashLedger> call) {
        CashLedger x = maker.get();
        try {
            call.accept(x);
        } catch (RuntimeException e) {
            return x;
        }
        return x;
    }

    /** The least and the greatest value are accepted, those next to them and the farthest are not. */
    static void range(String what, Supplier<CashLedger> maker, int least, int most, Call call) {
        inside(what, maker, call, least, most);
        outside(what, maker, ARGUMENT, call, least - 1, most + 1);
    }

    /** The numbers of things of which there are some: from 0 on, as many as there are. */
    static void numbers(String what, Supplier<CashLedger> maker, int size, Call call) {
        if (size > 0) {
            inside(what, maker, call, 0, size - 1);
        }
        outside(what, maker, INDEX, call, -1, size);
    }

    private static void inside(String what, Supplier<CashLedger> maker, Call call, int... values) {
        for (int value : values) {
            accepted(what + " " + value, maker, x -> call.on(x, value));
        }
    }

    private static void outside(String what, Supplier<CashLedger> maker, Class<? extends Exception> due, Call call,
            int below, int above) {
        for (int value : new int[] {below, above, Integer.MIN_VALUE, Integer.MAX_VALUE}) {
            refused(what + " " + value, maker, due, x -> call.on(x, value));
        }
    }

    /** Something of everything: 6 entries, 3 assets, 2 rooms, a closed quarter, a copy, 8 changes, a bad text. */
    static CashLedger busy() {
        CashLedger x = Ledgers.of(
                "start 700;assets 100 200;interest 10;bracket 1000 100;top 500;room 10 office 0 44;room 30");
        x.addEntry(0, 1, 10000, 0, 5);
        x.addEntry(1, 2, 20, 0, 20);
        x.addEntry(2, 3, 403, 30, 35);
        x.save();
        x.addEntry(3, 4, 70, 0, 100);
        x.addAsset(100, 29, 5);
        x.addAsset(150, 40, 6);
        x.addAsset(1201, 40, 6);
        x.sellAsset(2, 100, 900);
        x.closeQuarter();
        x.addEntry(0, 1, 3000, 0, 6);
        x.addEntry(0, 1, 4000, 9, NONE);
        Ledgers.put(x, "start 5;room");
        return x;
    }

    /** As much as there can be of everything. */
    static CashLedger full() {
        CashLedger x = Ledgers.of("top 500;bracket 1 1;bracket 2 2;bracket 3 3;bracket 4 4;bracket 5 5;"
                + "room 1;room 2 office 0 359;room 3;room 4;room 5;room 6");
        for (int i = 0; i < 60; i++) {
            x.addEntry(i % 4, i % 10, 1000 + i, i, 6 * i);
        }
        for (int i = 0; i < 12; i++) {
            x.addAsset(70000 + 5000 * i, 30 * i, 1 + 10 * i);
        }
        for (int i = 0; i < 4; i++) {
            x.closeQuarter();
        }
        x.save();
        Ledgers.put(x, " ".repeat(394) + "top5;x");
        return x;
    }
}
