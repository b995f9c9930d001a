import java.nio.charset.StandardCharsets;

/** What several tests do with a ledger. */
final class Ledgers {
    private Ledgers() {
    }

    /** A ledger loaded from a setup text. */
    static CashLedger of(String text) {
        CashLedger ledger = new CashLedger();
        put(ledger, text);
        ledger.load();
        return ledger;
    }

    /** Appends a text whose characters are bytes other than 0. */
    static void put(CashLedger ledger, String text) {
        byte[] bytes = text.getBytes(StandardCharsets.ISO_8859_1);
        for (int at = 0; at < bytes.length; at += 20) {
            ledger.append(word(bytes, at), word(bytes, at + 4), word(bytes, at + 8), word(bytes, at + 12),
                    word(bytes, at + 16));
        }
    }

    static int word(byte[] bytes, int at) {
        int word = 0;
        for (int i = at; i < at + 4; i++) {
            word = word << 8 | (i < bytes.length ? bytes[i] & 255 : 0);
        }
        return word;
    }

    static int errorOf(String text) {
        CashLedger ledger = new CashLedger();
        put(ledger, text);
        return ledger.errorPosition();
    }

    /** All that a ledger answers but for its input buffer: equal pictures, equal ledgers. */
    static String picture(CashLedger x) {
        StringBuilder all = new StringBuilder();
        for (int what = 0; what <= 8; what++) {
            all.append(x.count(what)).append(' ');
        }
        for (int i = 0; i < x.count(0); i++) {
            for (int what = 0; what <= 6; what++) {
                all.append(x.entry(i, what)).append(what == 6 ? ';' : ' ');
            }
            all.append(x.deductible(i)).append(' ');
        }
        for (int i = 0; i < x.count(4); i++) {
            all.append("room ").append(x.room(i, 0)).append(' ').append(x.room(i, 1)).append(' ').append(x.room(i, 2));
        }
        for (int i = 0; i < x.count(5); i++) {
            all.append("asset ");
            for (int what = 0; what <= 5; what++) {
                all.append(x.asset(i, what)).append(' ');
            }
        }
        for (int q = 0; q < 4; q++) {
            all.append("quarter ").append(x.profit(q)).append(' ').append(x.recomputed(q)).append(' ');
            all.append(q < x.count(7) ? x.prepayment(q) : CashLedger.NONE).append(' ');
        }
        // Not every day: an object answers 512 calls only. Picture asks fresh ones for all of them.
        for (int day = 0; day < 360; day += 15) {
            all.append(x.balance(day)).append(' ').append(x.balance(day + 14)).append(' ');
        }
        all.append(x.tax(5000000)).append(' ').append(x.interest()).append(' ').append(x.undoCount());
        return all.toString();
    }
}
