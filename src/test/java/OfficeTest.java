/** Promises 9, 10, 26 and 27: rooms and the office share. */
public final class OfficeTest {
    public static void main(String[] args) {
        addRoom();
        setOffice();
        room();
        share();
        Check.end();
    }

    private static void addRoom() {
        CashLedger x = new CashLedger();
        Check.fails("9: area 0", IllegalArgumentException.class, () -> x.addRoom(0));
        Check.fails("9: area 501", IllegalArgumentException.class, () -> x.addRoom(501));
        Check.same("9: no change", x.undoCount(), 0);
        Check.same("9: area 1", x.addRoom(1), 0);
        Check.same("9: area 500", x.addRoom(500), 1);
        for (int i = 2; i < 6; i++) {
            Check.same("9: number", x.addRoom(10 * i), i);
        }
        Check.fails("9: 6 rooms", IllegalStateException.class, () -> x.addRoom(5));
        Check.fails("9: the area first", IllegalArgumentException.class, () -> x.addRoom(0));
        Check.same("9: still 6", x.count(4), 6);
        Check.same("9: changes", x.undoCount(), 6);
        Check.same("9: without office use", x.room(5, 1), -1);
        CashLedger full = Ledgers.of("room 1;room 1;room 1;room 1;room 1;room 1");
        Check.fails("9: 6 of the text", IllegalStateException.class, () -> full.addRoom(5));
    }

    private static void setOffice() {
        CashLedger x = Ledgers.of("room 5;room 6 office 100 129");
        Check.same("10: none before", x.setOffice(0, 0, 0), 0);
        Check.same("10: a day before", x.setOffice(0, 359, 359), 1);
        Check.same("10: the last day before", x.setOffice(0, 0, 359), 1);
        Check.same("10: the year before", x.setOffice(0, CashLedger.NONE, 500), 360);
        Check.same("10: none again", x.setOffice(0, CashLedger.NONE, -500), 0);
        Check.same("10: of the text", x.setOffice(1, 5, 6), 30);
        Check.same("10: changes", x.undoCount(), 6);
        Check.fails("10: room 2", IndexOutOfBoundsException.class, () -> x.setOffice(2, 400, 0));
        Check.fails("10: room -1", IndexOutOfBoundsException.class, () -> x.setOffice(-1, 0, 0));
        Check.fails("10: from -2", IllegalArgumentException.class, () -> x.setOffice(0, -2, 0));
        Check.fails("10: from 360", IllegalArgumentException.class, () -> x.setOffice(0, 360, 360));
        Check.fails("10: to before from", IllegalArgumentException.class, () -> x.setOffice(0, 5, 4));
        Check.fails("10: to 360", IllegalArgumentException.class, () -> x.setOffice(0, 5, 360));
        Check.fails("10: to NONE", IllegalArgumentException.class, () -> x.setOffice(0, 5, CashLedger.NONE));
        Check.same("10: nothing changed", x.room(0, 1), -1);
        Check.same("10: no more changes", x.undoCount(), 6);
    }

    private static void room() {
        CashLedger x = Ledgers.of("room 5;room 6 office 100 129");
        x.setOffice(0, 7, 8);
        int[][] due = {{5, 7, 8}, {6, 100, 129}};
        for (int i = 0; i < 2; i++) {
            for (int what = 0; what < 3; what++) {
                Check.same("26: " + i + ", " + what, x.room(i, what), due[i][what]);
            }
        }
        x.setOffice(0, CashLedger.NONE, 8);
        Check.same("26: no first day", x.room(0, 1), -1);
        Check.same("26: no last day", x.room(0, 2), -1);
        Check.fails("26: room 2", IndexOutOfBoundsException.class, () -> x.room(2, 9));
        Check.fails("26: room -1", IndexOutOfBoundsException.class, () -> x.room(-1, 0));
        Check.fails("26: what 3", IllegalArgumentException.class, () -> x.room(0, 3));
        Check.fails("26: what -1", IllegalArgumentException.class, () -> x.room(0, -1));
    }

    private static void shareIs(CashLedger x, int month, int top, int bottom) {
        Check.same("27: top of " + month, x.share(month, false), top);
        Check.same("27: bottom of " + month, x.share(month, true), bottom);
    }

    private static void share() {
        CashLedger x = new CashLedger();
        shareIs(x, 0, 0, 1);
        x.addRoom(20);
        shareIs(x, 0, 0, 1);
        x.addRoom(60);
        x.setOffice(0, 15, 60);
        shareIs(x, 0, 1, 8);
        shareIs(x, 1, 1, 4);
        shareIs(x, 2, 1, 120);
        shareIs(x, 3, 0, 1);
        x.setOffice(1, 29, 30);
        shareIs(x, 0, 3, 20);
        shareIs(x, 1, 11, 40);
        x.setOffice(0, 0, 359);
        x.setOffice(1, 330, 359);
        shareIs(x, 10, 1, 4);
        shareIs(x, 11, 1, 1);
        Check.fails("27: -1", IllegalArgumentException.class, () -> x.share(-1, true));
        Check.fails("27: 12", IllegalArgumentException.class, () -> x.share(12, false));
        CashLedger big = Ledgers.of("room 499 office 0 0;room 500;room 500;room 500;room 500;room 500 office 1 1");
        shareIs(big, 0, 333, 29990);
    }
}
