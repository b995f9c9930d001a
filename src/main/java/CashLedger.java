import java.util.NoSuchElementException;

/** The tax ledger of a freelancer for one year of 360 days; amounts are whole cents. */
public final class CashLedger {
    public static final int NONE = -1;

    private static final int MONTH_DAYS = 30;
    private static final int QUARTER_DAYS = 90;
    private static final int QUARTER_MONTHS = 3;
    private static final int YEAR_DAYS = 360;
    private static final int MONTHS = 12;
    private static final int QUARTERS = 4;
    private static final int LAST_DAY = YEAR_DAYS - 1;
    private static final int LAST_MONTH = MONTHS - 1;
    private static final int LAST_QUARTER = QUARTERS - 1;

    private static final int MAX_BYTES = 400;
    private static final int MAX_ENTRIES = 60;
    private static final int MAX_ROOMS = 6;
    private static final int MAX_ASSETS = 12;
    private static final int MAX_BRACKETS = 5;
    private static final int MAX_UNDO = 8;

    private static final int MAX_CATEGORY = 9;
    private static final int MAX_AMOUNT = 10000000;
    private static final int MAX_BALANCE = 10000000;
    private static final int MAX_AREA = 500;
    private static final int MAX_PRICE = 5000000;
    private static final int MAX_LIFE = 120;
    private static final int MAX_NEEDED_INCOME = 100000000;

    private static final int INCOME = 0;
    private static final int EXPENSE = 1;
    private static final int SHARED = 2;
    private static final int PRIVATE = 3;

    private static final int SMALL = 0;
    private static final int POOLED = 1;
    private static final int SINGLE = 2;

    private final int[] buffer;
    private int bufferLength;
    private final SetupReader reader;
    private Setup setup;
    private final State now;
    private final State saved;
    private boolean hasSaved;
    private final History history;
    private final long[] balances;

    public CashLedger() {
        buffer = new int[MAX_BYTES];
        reader = new SetupReader();
        setup = new Setup();
        now = new State();
        saved = new State();
        history = new History();
        balances = new long[YEAR_DAYS];
        setup.addBracket(1000000, 0);
        setup.addBracket(6000000, 250);
        now.begin(setup);
    }

    // ---- Input

    public int append(int a, int b, int c, int d, int e) throws IllegalStateException {
        int added = bytesIn(a) + bytesIn(b) + bytesIn(c) + bytesIn(d) + bytesIn(e);
        requireState(bufferLength + added <= MAX_BYTES);
        putBytes(a);
        putBytes(b);
        putBytes(c);
        putBytes(d);
        putBytes(e);
        return bufferLength;
    }

    public int truncate(int length) throws IllegalArgumentException {
        requireArgument(within(length, 0, bufferLength));
        bufferLength = length;
        return bufferLength;
    }

    public int errorPosition() {
        return reader.read(buffer, bufferLength);
    }

    public int load() throws IllegalArgumentException {
        requireArgument(reader.read(buffer, bufferLength) == NONE);
        setup = reader.handOver(setup);
        now.begin(setup);
        history.clear();
        hasSaved = false;
        bufferLength = 0;
        return now.rooms.size;
    }

    // ---- Changes

    public int addEntry(int kind, int category, int amount, int invoiced, int paid)
            throws IllegalArgumentException, IllegalStateException {
        requireArgument(within(kind, INCOME, PRIVATE) && within(category, 0, MAX_CATEGORY)
                && within(amount, 1, MAX_AMOUNT) && within(invoiced, 0, LAST_DAY) && isDayOrNone(paid));
        requireState(now.entries.size < MAX_ENTRIES);
        history.remember(now);
        boolean late = paid != NONE && paid / QUARTER_DAYS < now.closed;
        return now.entries.add(kind, category, amount, invoiced, paid, late);
    }

    public int pay(int entry, int day)
            throws IndexOutOfBoundsException, IllegalArgumentException, IllegalStateException {
        requireIndex(entry, now.entries.size);
        requireArgument(isDayOrNone(day));
        requireState(!now.entries.cancelled[entry]);
        history.remember(now);
        int previous = now.entries.paid[entry];
        now.entries.paid[entry] = day;
        return previous;
    }

    public int cancel(int entry) throws IndexOutOfBoundsException, IllegalStateException {
        requireIndex(entry, now.entries.size);
        requireState(!now.entries.cancelled[entry]);
        history.remember(now);
        now.entries.cancelled[entry] = true;
        return now.entries.amount[entry];
    }

    public int addRoom(int area) throws IllegalArgumentException, IllegalStateException {
        requireArgument(within(area, 1, MAX_AREA));
        requireState(now.rooms.size < MAX_ROOMS);
        history.remember(now);
        return now.rooms.add(area, NONE, NONE);
    }

    public int setOffice(int room, int from, int to)
            throws IndexOutOfBoundsException, IllegalArgumentException {
        requireIndex(room, now.rooms.size);
        requireArgument(from == NONE || (within(from, 0, LAST_DAY) && within(to, from, LAST_DAY)));
        history.remember(now);
        int previous = now.rooms.daysUsed(room, 0, LAST_DAY);
        now.rooms.from[room] = from;
        now.rooms.to[room] = from == NONE ? NONE : to;
        return previous;
    }

    public int addAsset(int price, int day, int life)
            throws IllegalArgumentException, IllegalStateException {
        requireArgument(within(price, 1, MAX_PRICE) && within(day, 0, LAST_DAY)
                && within(life, 1, MAX_LIFE));
        requireState(now.assets.size < MAX_ASSETS);
        history.remember(now);
        return now.assets.add(price, day, life, setup.sortOf(price));
    }

    public int sellAsset(int asset, int day, int price)
            throws IndexOutOfBoundsException, IllegalArgumentException, IllegalStateException {
        requireIndex(asset, now.assets.size);
        requireArgument(within(day, now.assets.day[asset], LAST_DAY) && within(price, 0, MAX_PRICE));
        requireState(now.assets.soldDay[asset] == NONE);
        history.remember(now);
        int value = now.assets.valueAt(asset, day / MONTH_DAYS - 1);
        now.assets.soldDay[asset] = day;
        now.assets.soldPrice[asset] = price;
        return value;
    }

    public int closeQuarter() throws IllegalStateException {
        int quarter = now.closed;
        requireState(quarter < QUARTERS);
        history.remember(now);
        long target = targetAt(quarter, now.profitUpTo(quarter));
        int amount = (int) Math.max(0, target - now.prepaidSoFar());
        now.prepaid[quarter] = amount;
        now.closed = quarter + 1;
        return amount;
    }

    public int setStart(int balance) throws IllegalArgumentException {
        requireArgument(within(balance, -MAX_BALANCE, MAX_BALANCE));
        history.remember(now);
        int previous = now.start;
        now.start = balance;
        return previous;
    }

    // ---- History

    public int undo() throws IllegalStateException {
        requireState(history.size > 0);
        history.takeBack(now);
        return history.size;
    }

    public int undoCount() {
        return history.size;
    }

    public int save() {
        saved.copyFrom(now);
        hasSaved = true;
        return now.entries.size;
    }

    public int restore() throws IllegalStateException {
        requireState(hasSaved);
        now.copyFrom(saved);
        history.clear();
        return now.entries.size;
    }

    // ---- Entries

    public int count(int what) throws IllegalArgumentException {
        switch (what) {
            case 0: return now.entries.size;
            case 1: return now.entries.openOnes();
            case 2: return now.entries.cancelledOnes();
            case 3: return now.entries.lateOnes();
            case 4: return now.rooms.size;
            case 5: return now.assets.size;
            case 6: return now.assets.soldOnes();
            case 7: return now.closed;
            case 8: return setup.bracketCount;
            default: throw new IllegalArgumentException("what is out of range");
        }
    }

    public int entry(int entry, int what) throws IndexOutOfBoundsException, IllegalArgumentException {
        requireIndex(entry, now.entries.size);
        switch (what) {
            case 0: return now.entries.kind[entry];
            case 1: return now.entries.category[entry];
            case 2: return now.entries.amount[entry];
            case 3: return now.entries.invoiced[entry];
            case 4: return now.entries.paid[entry];
            case 5: return now.entries.cancelled[entry] ? 1 : 0;
            case 6: return now.entries.late[entry] ? 1 : 0;
            default: throw new IllegalArgumentException("what is out of range");
        }
    }

    public int deductible(int entry) throws IndexOutOfBoundsException {
        requireIndex(entry, now.entries.size);
        return now.deductiblePart(entry);
    }

    public long total(int kind, int from, int to) throws IllegalArgumentException {
        requireArgument(within(kind, INCOME, PRIVATE) && within(from, 0, LAST_DAY)
                && within(to, from, LAST_DAY));
        return now.entries.sumPaid(kind, from, to);
    }

    public long byCategory(int category, boolean income) throws IllegalArgumentException {
        requireArgument(within(category, 0, MAX_CATEGORY));
        return income ? now.entries.incomesOf(category) : now.deductiblePartsOf(category);
    }

    public long open(int kind) throws IllegalArgumentException {
        requireArgument(within(kind, INCOME, PRIVATE));
        return now.entries.sumOpen(kind);
    }

    public int oldestOpen() throws NoSuchElementException {
        int oldest = now.entries.firstInvoicedOpen();
        requireElement(oldest != NONE);
        return oldest;
    }

    // ---- Office

    public int room(int room, int what) throws IndexOutOfBoundsException, IllegalArgumentException {
        requireIndex(room, now.rooms.size);
        switch (what) {
            case 0: return now.rooms.area[room];
            case 1: return now.rooms.from[room];
            case 2: return now.rooms.to[room];
            default: throw new IllegalArgumentException("what is out of range");
        }
    }

    public int share(int month, boolean denominator) throws IllegalArgumentException {
        requireArgument(within(month, 0, LAST_MONTH));
        int used = now.rooms.usedIn(month);
        int whole = now.rooms.wholeMonth();
        int divisor = commonDivisor(used, whole);
        if (used == 0 || divisor == 0) {
            return denominator ? 1 : 0;
        }
        return (denominator ? whole : used) / divisor;
    }

    // ---- Assets

    public int asset(int asset, int what) throws IndexOutOfBoundsException, IllegalArgumentException {
        requireIndex(asset, now.assets.size);
        switch (what) {
            case 0: return now.assets.price[asset];
            case 1: return now.assets.day[asset];
            case 2: return now.assets.life[asset];
            case 3: return now.assets.sort[asset];
            case 4: return now.assets.soldDay[asset];
            case 5: return now.assets.soldPrice[asset];
            default: throw new IllegalArgumentException("what is out of range");
        }
    }

    public int written(int asset, int month) throws IndexOutOfBoundsException, IllegalArgumentException {
        requireIndex(asset, now.assets.size);
        requireArgument(within(month, 0, LAST_MONTH));
        return now.assets.writtenIn(asset, month);
    }

    public int bookValue(int asset, int month) throws IndexOutOfBoundsException, IllegalArgumentException {
        requireIndex(asset, now.assets.size);
        requireArgument(within(month, 0, LAST_MONTH));
        return now.assets.valueAt(asset, month);
    }

    public int pool(int quarter) throws IllegalArgumentException {
        requireQuarter(quarter);
        return now.assets.poolAt(quarter);
    }

    public int poolWritten(int quarter) throws IllegalArgumentException {
        requireQuarter(quarter);
        return now.assets.poolWrittenIn(quarter);
    }

    // ---- Profit and tax

    public long profit(int quarter) throws IllegalArgumentException {
        requireQuarter(quarter);
        return now.profitUpTo(quarter) - now.profitUpTo(quarter - 1);
    }

    public long profitTo(int quarter) throws IllegalArgumentException {
        requireQuarter(quarter);
        return now.profitUpTo(quarter);
    }

    public long tax(int amount) {
        return setup.taxOf(amount);
    }

    public int rate(int amount) {
        return setup.rateOf(amount);
    }

    public long yearTax() {
        return setup.taxOf(yearProfit());
    }

    public int prepayment(int quarter) throws IllegalArgumentException, NoSuchElementException {
        requireQuarter(quarter);
        requireElement(quarter < now.closed);
        return now.prepaid[quarter];
    }

    public int recomputed(int quarter) throws IllegalArgumentException {
        requireQuarter(quarter);
        return prepaymentNow(quarter);
    }

    public int correction(int quarter) throws IllegalArgumentException, NoSuchElementException {
        requireQuarter(quarter);
        requireElement(quarter < now.closed);
        return prepaymentNow(quarter) - now.prepaid[quarter];
    }

    public long settlement() throws IllegalStateException {
        requireState(now.closed == QUARTERS);
        return setup.taxOf(yearProfit()) - now.prepaidSoFar();
    }

    public long interest() {
        long sum = 0;
        for (int quarter = 0; quarter < now.closed; quarter++) {
            long due = prepaymentNow(quarter) - now.prepaid[quarter];
            if (due > 0) {
                sum += due * setup.interestRate * (QUARTERS - quarter) / 1000;
            }
        }
        return sum;
    }

    public double effectiveRate() throws NoSuchElementException {
        long profit = yearProfit();
        requireElement(profit > 0);
        return (double) setup.taxOf(profit) * 100.0 / (double) profit;
    }

    public long whatIf(int kind, int amount, int day) throws IllegalArgumentException {
        requireArgument(within(kind, INCOME, PRIVATE) && within(amount, 1, MAX_AMOUNT)
                && within(day, 0, LAST_DAY));
        long gain = kind == INCOME ? amount : -now.deductibleOf(kind, amount, day);
        return additionalTax(yearProfit(), gain);
    }

    public int neededIncome(int net) throws IllegalArgumentException, NoSuchElementException {
        requireArgument(within(net, 1, MAX_AMOUNT));
        long profit = yearProfit();
        requireElement(leftOf(MAX_NEEDED_INCOME, profit) >= net);
        // No rate is above 900 thousandths, so what is left never falls as the income grows.
        int tooLittle = 0;
        int enough = MAX_NEEDED_INCOME;
        for (int step = 0; step < 32 && enough - tooLittle > 1; step++) {
            int middle = (tooLittle + enough) / 2;
            if (leftOf(middle, profit) >= net) {
                enough = middle;
            } else {
                tooLittle = middle;
            }
        }
        return enough;
    }

    // ---- Balance

    public long balance(int day) throws IllegalArgumentException {
        requireArgument(within(day, 0, LAST_DAY));
        now.fillBalances(balances);
        return balances[day];
    }

    public int lowestDay() {
        now.fillBalances(balances);
        int lowest = 0;
        for (int day = 1; day < YEAR_DAYS; day++) {
            if (balances[day] < balances[lowest]) {
                lowest = day;
            }
        }
        return lowest;
    }

    public int daysBelow(int balance) {
        now.fillBalances(balances);
        int days = 0;
        for (int day = 0; day < YEAR_DAYS; day++) {
            if (balances[day] < balance) {
                days++;
            }
        }
        return days;
    }

    public int bestMonth() {
        int best = 0;
        long most = now.receivedIn(0);
        for (int month = 1; month < MONTHS; month++) {
            long received = now.receivedIn(month);
            if (received > most) {
                best = month;
                most = received;
            }
        }
        return best;
    }

    // ---- What the document's methods share

    private static void requireArgument(boolean holds) {
        if (!holds) {
            throw new IllegalArgumentException("an argument is out of range, or the text is not valid");
        }
    }

    private static void requireState(boolean holds) {
        if (!holds) {
            throw new IllegalStateException("the ledger's state does not allow this call");
        }
    }

    private static void requireElement(boolean holds) {
        if (!holds) {
            throw new NoSuchElementException("there is no such value");
        }
    }

    private static void requireIndex(int index, int size) {
        if (index < 0 || index >= size) {
            throw new IndexOutOfBoundsException("there is nothing of this number");
        }
    }

    private static void requireQuarter(int quarter) {
        requireArgument(within(quarter, 0, LAST_QUARTER));
    }

    private static boolean within(int value, int least, int most) {
        return value >= least && value <= most;
    }

    private static boolean isDayOrNone(int day) {
        return day == NONE || within(day, 0, LAST_DAY);
    }

    private static int bytesIn(int word) {
        int bytes = 0;
        for (int shift = 24; shift >= 0; shift -= 8) {
            if ((word >>> shift & 255) != 0) {
                bytes++;
            }
        }
        return bytes;
    }

    private void putBytes(int word) {
        for (int shift = 24; shift >= 0; shift -= 8) {
            int value = word >>> shift & 255;
            if (value != 0 && bufferLength < MAX_BYTES) {
                buffer[bufferLength] = value;
                bufferLength++;
            }
        }
    }

    private static int commonDivisor(int first, int second) {
        int a = first;
        int b = second;
        // Euclid's remainders at least halve every two steps, so an int never needs this many.
        for (int step = 0; step < 100 && b != 0; step++) {
            int rest = a % b;
            a = b;
            b = rest;
        }
        return a;
    }

    private long yearProfit() {
        return now.profitUpTo(LAST_QUARTER);
    }

    private long targetAt(int quarter, long profitSoFar) {
        if (profitSoFar < 0 || quarter < 0) {
            return 0;
        }
        long estimate = profitSoFar * QUARTERS / (quarter + 1);
        return setup.taxOf(estimate) * (quarter + 1) / QUARTERS;
    }

    private int prepaymentNow(int quarter) {
        long paidSoFar = 0;
        long due = 0;
        for (int q = 0; q <= quarter; q++) {
            due = Math.max(0, targetAt(q, now.profitUpTo(q)) - paidSoFar);
            paidSoFar += due;
        }
        return (int) due;
    }

    private long additionalTax(long profit, long gain) {
        return setup.taxOf(profit + gain) - setup.taxOf(profit);
    }

    private long leftOf(int income, long profit) {
        return income - additionalTax(profit, income);
    }

    /** The entries, an element of each array for each of them. */
    private static final class Entries {
        private int size;
        private final int[] kind = new int[MAX_ENTRIES];
        private final int[] category = new int[MAX_ENTRIES];
        private final int[] amount = new int[MAX_ENTRIES];
        private final int[] invoiced = new int[MAX_ENTRIES];
        private final int[] paid = new int[MAX_ENTRIES];
        private final boolean[] cancelled = new boolean[MAX_ENTRIES];
        private final boolean[] late = new boolean[MAX_ENTRIES];

        private int add(int newKind, int newCategory, int newAmount, int dayInvoiced, int dayPaid,
                boolean isLate) {
            if (size >= MAX_ENTRIES) {
                return NONE;
            }
            kind[size] = newKind;
            category[size] = newCategory;
            amount[size] = newAmount;
            invoiced[size] = dayInvoiced;
            paid[size] = dayPaid;
            cancelled[size] = false;
            late[size] = isLate;
            size++;
            return size - 1;
        }

        private void copyFrom(Entries other) {
            size = other.size;
            for (int i = 0; i < size; i++) {
                kind[i] = other.kind[i];
                category[i] = other.category[i];
                amount[i] = other.amount[i];
                invoiced[i] = other.invoiced[i];
                paid[i] = other.paid[i];
                cancelled[i] = other.cancelled[i];
                late[i] = other.late[i];
            }
        }

        private boolean isOpen(int i) {
            return paid[i] == NONE && !cancelled[i];
        }

        private boolean counts(int i) {
            return paid[i] != NONE && !cancelled[i];
        }

        private boolean countsWithin(int i, int from, int to) {
            return counts(i) && paid[i] >= from && paid[i] <= to;
        }

        private int openOnes() {
            int ones = 0;
            for (int i = 0; i < size; i++) {
                if (isOpen(i)) {
                    ones++;
                }
            }
            return ones;
        }

        private int cancelledOnes() {
            int ones = 0;
            for (int i = 0; i < size; i++) {
                if (cancelled[i]) {
                    ones++;
                }
            }
            return ones;
        }

        private int lateOnes() {
            int ones = 0;
            for (int i = 0; i < size; i++) {
                if (late[i]) {
                    ones++;
                }
            }
            return ones;
        }

        private long sumPaid(int ofKind, int from, int to) {
            long sum = 0;
            for (int i = 0; i < size; i++) {
                if (kind[i] == ofKind && countsWithin(i, from, to)) {
                    sum += amount[i];
                }
            }
            return sum;
        }

        private long incomesOf(int ofCategory) {
            long sum = 0;
            for (int i = 0; i < size; i++) {
                if (kind[i] == INCOME && category[i] == ofCategory && counts(i)) {
                    sum += amount[i];
                }
            }
            return sum;
        }

        private long sumOpen(int ofKind) {
            long sum = 0;
            for (int i = 0; i < size; i++) {
                if (kind[i] == ofKind && isOpen(i)) {
                    sum += amount[i];
                }
            }
            return sum;
        }

        private int firstInvoicedOpen() {
            int first = NONE;
            for (int i = 0; i < size; i++) {
                if (isOpen(i) && (first == NONE || invoiced[i] < invoiced[first])) {
                    first = i;
                }
            }
            return first;
        }
    }

    /** The rooms; from and to are both NONE for a room without office use. */
    private static final class Rooms {
        private int size;
        private final int[] area = new int[MAX_ROOMS];
        private final int[] from = new int[MAX_ROOMS];
        private final int[] to = new int[MAX_ROOMS];

        private int add(int newArea, int firstDay, int lastDay) {
            if (size >= MAX_ROOMS) {
                return NONE;
            }
            area[size] = newArea;
            from[size] = firstDay;
            to[size] = lastDay;
            size++;
            return size - 1;
        }

        private void copyFrom(Rooms other) {
            size = other.size;
            for (int i = 0; i < size; i++) {
                area[i] = other.area[i];
                from[i] = other.from[i];
                to[i] = other.to[i];
            }
        }

        private int daysUsed(int i, int first, int last) {
            int begin = from[i] > first ? from[i] : first;
            int end = to[i] < last ? to[i] : last;
            return from[i] == NONE || end < begin ? 0 : end - begin + 1;
        }

        /** Area times days of office use in a month, over all rooms. */
        private int usedIn(int month) {
            int first = month * MONTH_DAYS;
            int sum = 0;
            for (int i = 0; i < size; i++) {
                sum += area[i] * daysUsed(i, first, first + MONTH_DAYS - 1);
            }
            return sum;
        }

        /** Area times days of a month, over all rooms. */
        private int wholeMonth() {
            int sum = 0;
            for (int i = 0; i < size; i++) {
                sum += area[i] * MONTH_DAYS;
            }
            return sum;
        }
    }

    /** The assets; soldDay and soldPrice are both NONE for an asset that is not sold. */
    private static final class Assets {
        private int size;
        private final int[] price = new int[MAX_ASSETS];
        private final int[] day = new int[MAX_ASSETS];
        private final int[] life = new int[MAX_ASSETS];
        private final int[] sort = new int[MAX_ASSETS];
        private final int[] soldDay = new int[MAX_ASSETS];
        private final int[] soldPrice = new int[MAX_ASSETS];

        private int add(int newPrice, int dayBought, int months, int newSort) {
            if (size >= MAX_ASSETS) {
                return NONE;
            }
            price[size] = newPrice;
            day[size] = dayBought;
            life[size] = months;
            sort[size] = newSort;
            soldDay[size] = NONE;
            soldPrice[size] = NONE;
            size++;
            return size - 1;
        }

        private void copyFrom(Assets other) {
            size = other.size;
            for (int i = 0; i < size; i++) {
                price[i] = other.price[i];
                day[i] = other.day[i];
                life[i] = other.life[i];
                sort[i] = other.sort[i];
                soldDay[i] = other.soldDay[i];
                soldPrice[i] = other.soldPrice[i];
            }
        }

        private int soldOnes() {
            int ones = 0;
            for (int i = 0; i < size; i++) {
                if (soldDay[i] != NONE) {
                    ones++;
                }
            }
            return ones;
        }

        private boolean isSoldBy(int i, int month) {
            return soldDay[i] != NONE && soldDay[i] / MONTH_DAYS <= month;
        }

        /** What is written off of a small or single asset up to the end of a month. */
        private int writtenUpTo(int i, int month) {
            int months = month - day[i] / MONTH_DAYS + 1;
            if (sort[i] == POOLED || months < 1) {
                return 0;
            }
            if (sort[i] == SMALL || months >= life[i] || isSoldBy(i, month)) {
                return price[i];
            }
            return price[i] * months / life[i];
        }

        private int writtenIn(int i, int month) {
            return writtenUpTo(i, month) - writtenUpTo(i, month - 1);
        }

        private int valueAt(int i, int month) {
            boolean bought = month >= day[i] / MONTH_DAYS;
            if (sort[i] == POOLED || !bought || isSoldBy(i, month)) {
                return 0;
            }
            return price[i] - writtenUpTo(i, month);
        }

        /** What is written off up to the end of a quarter, of all assets and of the pool. */
        private long allWrittenUpTo(int quarter) {
            int lastMonth = (quarter + 1) * QUARTER_MONTHS - 1;
            long sum = poolWrittenUpTo(quarter);
            for (int i = 0; i < size; i++) {
                sum += writtenUpTo(i, lastMonth);
            }
            return sum;
        }

        private int poolAt(int quarter) {
            int sum = 0;
            for (int i = 0; i < size; i++) {
                if (sort[i] == POOLED && day[i] / QUARTER_DAYS <= quarter) {
                    sum += price[i];
                }
            }
            return sum;
        }

        private int poolWrittenUpTo(int quarter) {
            return poolAt(quarter) * (quarter + 1) / 20;
        }

        private int poolWrittenIn(int quarter) {
            return poolWrittenUpTo(quarter) - poolWrittenUpTo(quarter - 1);
        }

        private long soldFor(int from, int to) {
            long sum = 0;
            for (int i = 0; i < size; i++) {
                if (soldDay[i] != NONE && within(soldDay[i], from, to)) {
                    sum += soldPrice[i];
                }
            }
            return sum;
        }
    }

    /** All that changes can change, and so all that undo and restore bring back. */
    private static final class State {
        private final Entries entries = new Entries();
        private final Rooms rooms = new Rooms();
        private final Assets assets = new Assets();
        private final int[] prepaid = new int[QUARTERS];
        private int closed;
        private int start;

        private void begin(Setup setup) {
            entries.size = 0;
            assets.size = 0;
            rooms.copyFrom(setup.rooms);
            closed = 0;
            start = setup.start;
        }

        private void copyFrom(State other) {
            entries.copyFrom(other.entries);
            rooms.copyFrom(other.rooms);
            assets.copyFrom(other.assets);
            closed = other.closed;
            start = other.start;
            for (int quarter = 0; quarter < closed; quarter++) {
                prepaid[quarter] = other.prepaid[quarter];
            }
        }

        private long deductibleOf(int kind, int amount, int day) {
            if (kind == EXPENSE) {
                return amount;
            }
            long whole = rooms.wholeMonth();
            if (kind != SHARED || whole == 0) {
                return 0;
            }
            return (long) amount * rooms.usedIn(day / MONTH_DAYS) / whole;
        }

        private int deductiblePart(int entry) {
            if (!entries.counts(entry)) {
                return 0;
            }
            return (int) deductibleOf(entries.kind[entry], entries.amount[entry], entries.paid[entry]);
        }

        private long deductiblePartsOf(int category) {
            long sum = 0;
            for (int i = 0; i < entries.size; i++) {
                if (entries.category[i] == category) {
                    sum += deductiblePart(i);
                }
            }
            return sum;
        }

        private long deductibleUpTo(int day) {
            long sum = 0;
            for (int i = 0; i < entries.size; i++) {
                if (entries.countsWithin(i, 0, day)) {
                    sum += deductibleOf(entries.kind[i], entries.amount[i], entries.paid[i]);
                }
            }
            return sum;
        }

        private long received(int from, int to) {
            return entries.sumPaid(INCOME, from, to) + assets.soldFor(from, to);
        }

        private long receivedIn(int month) {
            int first = month * MONTH_DAYS;
            return received(first, first + MONTH_DAYS - 1);
        }

        /** The profit of the quarters from 0 to a quarter; none of them for quarter -1. */
        private long profitUpTo(int quarter) {
            int lastDay = (quarter + 1) * QUARTER_DAYS - 1;
            return received(0, lastDay) - deductibleUpTo(lastDay) - assets.allWrittenUpTo(quarter);
        }

        private long prepaidSoFar() {
            long sum = 0;
            for (int quarter = 0; quarter < closed; quarter++) {
                sum += prepaid[quarter];
            }
            return sum;
        }

        /** Puts the balance at the end of each day into an array of a year's length. */
        private void fillBalances(long[] days) {
            for (int day = 0; day < days.length; day++) {
                days[day] = 0;
            }
            move(days, 0, start);
            for (int i = 0; i < entries.size; i++) {
                if (entries.counts(i)) {
                    int amount = entries.amount[i];
                    move(days, entries.paid[i], entries.kind[i] == INCOME ? amount : -amount);
                }
            }
            for (int i = 0; i < assets.size; i++) {
                move(days, assets.day[i], -assets.price[i]);
                if (assets.soldDay[i] != NONE) {
                    move(days, assets.soldDay[i], assets.soldPrice[i]);
                }
            }
            for (int quarter = 0; quarter < closed; quarter++) {
                move(days, (quarter + 1) * QUARTER_DAYS - 1, -prepaid[quarter]);
            }
            for (int day = 1; day < days.length; day++) {
                days[day] += days[day - 1];
            }
        }

        private static void move(long[] days, int day, int amount) {
            if (day >= 0 && day < days.length) {
                days[day] += amount;
            }
        }
    }

    /** The states before the latest changes, in a ring whose rows are used again. */
    private static final class History {
        private final State[] ring = new State[MAX_UNDO];
        private int next;
        private int size;

        private History() {
            for (int i = 0; i < MAX_UNDO; i++) {
                ring[i] = new State();
            }
        }

        private void clear() {
            next = 0;
            size = 0;
        }

        private void remember(State state) {
            State row = ring[next];
            if (row != null) {
                row.copyFrom(state);
            }
            next = (next + 1) % MAX_UNDO;
            size = Math.min(size + 1, MAX_UNDO);
        }

        private void takeBack(State state) {
            next = (next + MAX_UNDO - 1) % MAX_UNDO;
            size = Math.max(size - 1, 0);
            State row = ring[next];
            if (row != null) {
                state.copyFrom(row);
            }
        }
    }

    /** What a setup text says; only the start and the rooms can change after it is loaded. */
    private static final class Setup {
        private int start;
        private int smallLimit;
        private int poolLimit;
        private int interestRate;
        private int topRate;
        private int bracketCount;
        private final int[] limits = new int[MAX_BRACKETS];
        private final int[] rates = new int[MAX_BRACKETS];
        private final Rooms rooms = new Rooms();

        private Setup() {
            useDefaults();
        }

        private void useDefaults() {
            start = 0;
            smallLimit = 80000;
            poolLimit = 100000;
            interestRate = 5;
            topRate = 420;
            bracketCount = 0;
            rooms.size = 0;
        }

        private void addBracket(int limit, int thousandths) {
            if (bracketCount < MAX_BRACKETS) {
                limits[bracketCount] = limit;
                rates[bracketCount] = thousandths;
                bracketCount++;
            }
        }

        private int lastLimit() {
            return bracketCount == 0 ? 0 : limits[bracketCount - 1];
        }

        private int sortOf(int price) {
            if (price <= smallLimit) {
                return SMALL;
            }
            return price <= poolLimit ? POOLED : SINGLE;
        }

        private long taxOf(long amount) {
            if (amount <= 0) {
                return 0;
            }
            long sum = 0;
            long below = 0;
            for (int i = 0; i < bracketCount; i++) {
                sum += Math.max(0, Math.min(amount, limits[i]) - below) * rates[i];
                below = limits[i];
            }
            sum += Math.max(0, amount - below) * topRate;
            return sum / 1000;
        }

        private int rateOf(int amount) {
            for (int i = 0; i < bracketCount; i++) {
                if (limits[i] >= amount) {
                    return rates[i];
                }
            }
            return topRate;
        }
    }

    /** Reads setup texts, a token at a time. */
    private static final class SetupReader {
        private static final int END = 0;
        private static final int WORD = 1;
        private static final int NUMBER = 2;
        private static final int OTHER = 3;
        private static final int MAX_DIGITS = 8;
        private static final int MAX_RATE = 900;
        private static final int MAX_INTEREST = 100;
        private static final int MAX_LIMIT = 99999999;
        private static final int MAX_ASSET_LIMIT = 1000000;

        private final int[] text = new int[MAX_BYTES];
        private int length;
        private int position;
        private int tokenKind;
        private int tokenStart;
        private int number;
        private Setup target = new Setup();
        private boolean startSeen;
        private boolean assetsSeen;
        private boolean interestSeen;
        private boolean topSeen;

        /** Reads a text; answers the error position, or NONE if the text is valid. */
        private int read(int[] bytes, int count) {
            begin(bytes, count);
            nextToken();
            // Every statement takes a byte at least, so there are not more of them than bytes.
            for (int statement = 0; statement < MAX_BYTES; statement++) {
                if (!readStatement()) {
                    return tokenStart;
                }
                if (tokenKind == END) {
                    return NONE;
                }
                if (tokenKind != OTHER || text[tokenStart] != ';') {
                    return tokenStart;
                }
                nextToken();
            }
            return tokenStart;
        }

        /** Hands over the setup that was read, and takes one to read the next text into. */
        private Setup handOver(Setup next) {
            Setup done = target;
            target = next;
            return done;
        }

        private void begin(int[] bytes, int count) {
            length = Math.min(count, Math.min(bytes.length, MAX_BYTES));
            for (int i = 0; i < length; i++) {
                text[i] = bytes[i];
            }
            target.useDefaults();
            startSeen = false;
            assetsSeen = false;
            interestSeen = false;
            topSeen = false;
            position = 0;
        }

        private boolean readStatement() {
            if (isWord("start")) {
                return readStart();
            }
            if (isWord("assets")) {
                return readAssets();
            }
            if (isWord("interest")) {
                return readInterest();
            }
            if (isWord("top")) {
                return readTop();
            }
            if (isWord("bracket")) {
                return readBracket();
            }
            return isWord("room") && readRoom();
        }

        private boolean readStart() {
            if (startSeen) {
                return false;
            }
            startSeen = true;
            nextToken();
            target.start = takeNumber(0, MAX_BALANCE);
            return target.start != NONE;
        }

        private boolean readAssets() {
            if (assetsSeen) {
                return false;
            }
            assetsSeen = true;
            nextToken();
            target.smallLimit = takeNumber(0, MAX_ASSET_LIMIT);
            if (target.smallLimit == NONE) {
                return false;
            }
            target.poolLimit = takeNumber(target.smallLimit, MAX_ASSET_LIMIT);
            return target.poolLimit != NONE;
        }

        private boolean readInterest() {
            if (interestSeen) {
                return false;
            }
            interestSeen = true;
            nextToken();
            target.interestRate = takeNumber(0, MAX_INTEREST);
            return target.interestRate != NONE;
        }

        private boolean readTop() {
            if (topSeen) {
                return false;
            }
            topSeen = true;
            nextToken();
            target.topRate = takeNumber(0, MAX_RATE);
            return target.topRate != NONE;
        }

        private boolean readBracket() {
            if (target.bracketCount >= MAX_BRACKETS) {
                return false;
            }
            nextToken();
            int limit = takeNumber(target.lastLimit() + 1, MAX_LIMIT);
            if (limit == NONE) {
                return false;
            }
            int thousandths = takeNumber(0, MAX_RATE);
            if (thousandths == NONE) {
                return false;
            }
            target.addBracket(limit, thousandths);
            return true;
        }

        private boolean readRoom() {
            if (target.rooms.size >= MAX_ROOMS) {
                return false;
            }
            nextToken();
            int area = takeNumber(1, MAX_AREA);
            if (area == NONE) {
                return false;
            }
            if (!isWord("office")) {
                target.rooms.add(area, NONE, NONE);
                return true;
            }
            nextToken();
            int from = takeNumber(0, LAST_DAY);
            if (from == NONE) {
                return false;
            }
            int to = takeNumber(from, LAST_DAY);
            if (to == NONE) {
                return false;
            }
            target.rooms.add(area, from, to);
            return true;
        }

        /** Takes the number that stands next; answers NONE, and stays, if none of the range does. */
        private int takeNumber(int least, int most) {
            if (tokenKind != NUMBER || !within(number, least, most)) {
                return NONE;
            }
            int taken = number;
            nextToken();
            return taken;
        }

        private boolean isWord(String word) {
            if (tokenKind != WORD || position - tokenStart != word.length()) {
                return false;
            }
            for (int i = 0; i < word.length(); i++) {
                if (text[tokenStart + i] != word.charAt(i)) {
                    return false;
                }
            }
            return true;
        }

        private void nextToken() {
            position = endOfRun(' ', ' ');
            tokenStart = position;
            if (position >= length) {
                tokenKind = END;
            } else if (text[position] >= 'a' && text[position] <= 'z') {
                tokenKind = WORD;
                position = endOfRun('a', 'z');
            } else if (text[position] >= '0' && text[position] <= '9') {
                tokenKind = NUMBER;
                position = endOfRun('0', '9');
                number = valueOfDigits();
            } else {
                tokenKind = OTHER;
                position++;
            }
        }

        private int endOfRun(int first, int last) {
            int end = position;
            while (end < length && text[end] >= first && text[end] <= last) {
                end++;
            }
            return end;
        }

        /** The value of the number token; NONE, which is in no range, if it has too many digits. */
        private int valueOfDigits() {
            if (position - tokenStart > MAX_DIGITS) {
                return NONE;
            }
            int value = 0;
            for (int i = tokenStart; i < position; i++) {
                value = value * 10 + text[i] - '0';
            }
            return value;
        }
    }
}
