import java.math.BigInteger;
import java.util.ArrayList;
import java.util.List;
import java.util.NoSuchElementException;
import java.util.regex.Matcher;
import java.util.regex.Pattern;

/**
 * A second, plain reading of the document, for random runs to be compared with. It counts day by
 * day and month by month where the class sums up, and keeps whole copies for its history.
 */
final class Model {
    private static final int NONE = -1;

    private static final class Item {
        int kind;
        int category;
        int amount;
        int invoiced;
        int paid;
        boolean cancelled;
        boolean late;

        boolean counts() {
            return paid != NONE && !cancelled;
        }
    }

    private static final class Room {
        int area;
        int from = NONE;
        int to = NONE;
    }

    private static final class Asset {
        int price;
        int day;
        int life;
        int soldDay = NONE;
        int soldPrice = NONE;
    }

    private static final class Books {
        final List<Item> items = new ArrayList<>();
        final List<Room> rooms = new ArrayList<>();
        final List<Asset> assets = new ArrayList<>();
        final List<Long> prepaid = new ArrayList<>();
        int start;

        Books copy() {
            Books copy = new Books();
            for (Item i : items) {
                Item c = new Item();
                c.kind = i.kind;
                c.category = i.category;
                c.amount = i.amount;
                c.invoiced = i.invoiced;
                c.paid = i.paid;
                c.cancelled = i.cancelled;
                c.late = i.late;
                copy.items.add(c);
            }
            for (Room r : rooms) {
                Room c = new Room();
                c.area = r.area;
                c.from = r.from;
                c.to = r.to;
                copy.rooms.add(c);
            }
            for (Asset a : assets) {
                Asset c = new Asset();
                c.price = a.price;
                c.day = a.day;
                c.life = a.life;
                c.soldDay = a.soldDay;
                c.soldPrice = a.soldPrice;
                copy.assets.add(c);
            }
            copy.prepaid.addAll(prepaid);
            copy.start = start;
            return copy;
        }
    }

    private Books books = new Books();
    private Books saved = null;
    private final List<Books> past = new ArrayList<>();
    private final List<Integer> buffer = new ArrayList<>();
    private int small = 80000;
    private int poolTop = 100000;
    private int interestRate = 5;
    private int topRate = 420;
    private List<int[]> brackets = new ArrayList<>(List.of(new int[] {1000000, 0}, new int[] {6000000, 250}));

    private static void argument(boolean holds) {
        if (!holds) {
            throw new IllegalArgumentException();
        }
    }

    private static void state(boolean holds) {
        if (!holds) {
            throw new IllegalStateException();
        }
    }

    private static <T> T at(List<T> list, int index) {
        if (index < 0 || index >= list.size()) {
            throw new IndexOutOfBoundsException();
        }
        return list.get(index);
    }

    private static boolean in(int value, int least, int most) {
        return least <= value && value <= most;
    }

    private void change() {
        past.add(books.copy());
        if (past.size() > 8) {
            past.remove(0);
        }
    }

    int append(int... words) {
        List<Integer> more = new ArrayList<>();
        for (int word : words) {
            for (int b = 3; b >= 0; b--) {
                int value = word >> 8 * b & 255;
                if (value != 0) {
                    more.add(value);
                }
            }
        }
        state(buffer.size() + more.size() <= 400);
        buffer.addAll(more);
        return buffer.size();
    }

    int truncate(int length) {
        argument(in(length, 0, buffer.size()));
        while (buffer.size() > length) {
            buffer.remove(buffer.size() - 1);
        }
        return length;
    }

    // The text's grammar as a run over its tokens: each must fit what the statement so far asks.

    private List<List<String>> statements;
    private static final Pattern TOKEN = Pattern.compile("[a-z]+|[0-9]+|[^ ]", Pattern.DOTALL);

    int errorPosition() {
        StringBuilder text = new StringBuilder();
        for (int b : buffer) {
            text.append((char) b);
        }
        statements = new ArrayList<>();
        statements.add(new ArrayList<>());
        Matcher m = TOKEN.matcher(text);
        while (m.find()) {
            List<String> sentence = statements.get(statements.size() - 1);
            if (m.group().equals(";") && complete(sentence)) {
                statements.add(new ArrayList<>());
            } else if (fits(sentence, m.group())) {
                sentence.add(m.group());
            } else {
                return m.start();
            }
        }
        return complete(statements.get(statements.size() - 1)) ? NONE : text.length();
    }

    private static boolean complete(List<String> s) {
        if (s.isEmpty()) {
            return false;
        }
        switch (s.get(0)) {
            case "room": return s.size() == 2 || s.size() == 5;
            case "bracket": case "assets": return s.size() == 3;
            default: return s.size() == 2;
        }
    }

    private boolean fits(List<String> s, String token) {
        if (s.isEmpty()) {
            int most = token.equals("bracket") ? 5 : token.equals("room") ? 6 : 1;
            return List.of("start", "assets", "interest", "top", "bracket", "room").contains(token)
                    && told(token).size() < most;
        }
        switch (s.get(0) + s.size()) {
            case "start1": return number(token, 0, 10000000);
            case "assets1": return number(token, 0, 1000000);
            case "assets2": return number(token, Integer.parseInt(s.get(1)), 1000000);
            case "interest1": return number(token, 0, 100);
            case "top1": return number(token, 0, 900);
            case "bracket1": return number(token, limitBefore() + 1, 99999999);
            case "bracket2": return number(token, 0, 900);
            case "room1": return number(token, 1, 500);
            case "room2": return token.equals("office");
            case "room3": return number(token, 0, 359);
            case "room4": return number(token, Integer.parseInt(s.get(3)), 359);
            default: return false;
        }
    }

    private int limitBefore() {
        int limit = 0;
        for (List<String> s : told("bracket")) {
            limit = s.size() > 1 ? Integer.parseInt(s.get(1)) : limit;
        }
        return limit;
    }

    private List<List<String>> told(String word) {
        List<List<String>> found = new ArrayList<>();
        for (List<String> s : statements) {
            if (!s.isEmpty() && s.get(0).equals(word)) {
                found.add(s);
            }
        }
        return found;
    }

    private static boolean number(String token, long least, long most) {
        if (!token.matches("[0-9]{1,8}")) {
            return false;
        }
        long value = Long.parseLong(token);
        return value >= least && value <= most;
    }

    private int numberOf(String word, int index, int otherwise) {
        List<List<String>> found = told(word);
        return found.isEmpty() ? otherwise : Integer.parseInt(found.get(0).get(index));
    }

    int load() {
        argument(errorPosition() == NONE);
        books = new Books();
        books.start = numberOf("start", 1, 0);
        small = numberOf("assets", 1, 80000);
        poolTop = numberOf("assets", 2, 100000);
        interestRate = numberOf("interest", 1, 5);
        topRate = numberOf("top", 1, 420);
        brackets = new ArrayList<>();
        for (List<String> s : told("bracket")) {
            brackets.add(new int[] {Integer.parseInt(s.get(1)), Integer.parseInt(s.get(2))});
        }
        for (List<String> s : told("room")) {
            Room r = new Room();
            r.area = Integer.parseInt(s.get(1));
            if (s.size() > 2) {
                r.from = Integer.parseInt(s.get(3));
                r.to = Integer.parseInt(s.get(4));
            }
            books.rooms.add(r);
        }
        past.clear();
        saved = null;
        buffer.clear();
        return books.rooms.size();
    }

    int addEntry(int kind, int category, int amount, int invoiced, int paid) {
        argument(in(kind, 0, 3));
        argument(in(category, 0, 9));
        argument(in(amount, 1, 10000000));
        argument(in(invoiced, 0, 359));
        argument(in(paid, NONE, 359));
        state(books.items.size() < 60);
        change();
        Item i = new Item();
        i.kind = kind;
        i.category = category;
        i.amount = amount;
        i.invoiced = invoiced;
        i.paid = paid;
        i.late = paid >= 0 && paid < 90 * books.prepaid.size();
        books.items.add(i);
        return books.items.size() - 1;
    }

    int pay(int entry, int day) {
        Item i = at(books.items, entry);
        argument(in(day, NONE, 359));
        state(!i.cancelled);
        change();
        int before = i.paid;
        i.paid = day;
        return before;
    }

    int cancel(int entry) {
        Item i = at(books.items, entry);
        state(!i.cancelled);
        change();
        i.cancelled = true;
        return i.amount;
    }

    int addRoom(int area) {
        argument(in(area, 1, 500));
        state(books.rooms.size() < 6);
        change();
        Room r = new Room();
        r.area = area;
        books.rooms.add(r);
        return books.rooms.size() - 1;
    }

    int setOffice(int room, int from, int to) {
        Room r = at(books.rooms, room);
        argument(from == NONE || in(from, 0, 359) && in(to, 0, 359) && from <= to);
        change();
        int days = r.from == NONE ? 0 : r.to - r.from + 1;
        r.from = from;
        r.to = from == NONE ? NONE : to;
        return days;
    }

    int addAsset(int price, int day, int life) {
        argument(in(price, 1, 5000000));
        argument(in(day, 0, 359));
        argument(in(life, 1, 120));
        state(books.assets.size() < 12);
        change();
        Asset a = new Asset();
        a.price = price;
        a.day = day;
        a.life = life;
        books.assets.add(a);
        return books.assets.size() - 1;
    }

    int sellAsset(int asset, int day, int price) {
        Asset a = at(books.assets, asset);
        argument(in(day, a.day, 359));
        argument(in(price, 0, 5000000));
        state(a.soldDay == NONE);
        int value = day < 30 ? 0 : bookValue(asset, day / 30 - 1);
        change();
        a.soldDay = day;
        a.soldPrice = price;
        return value;
    }

    int closeQuarter() {
        int q = books.prepaid.size();
        state(q < 4);
        long before = 0;
        for (long p : books.prepaid) {
            before += p;
        }
        long due = due(q, before);
        change();
        books.prepaid.add(due);
        return (int) due;
    }

    private long due(int q, long before) {
        long sum = profitTo(q);
        long estimate = sum < 0 ? 0 : sum * 4 / (q + 1);
        long target = taxOf(estimate) * (q + 1) / 4;
        return target > before ? target - before : 0;
    }

    int setStart(int balance) {
        argument(in(balance, -10000000, 10000000));
        change();
        int before = books.start;
        books.start = balance;
        return before;
    }

    int undo() {
        state(!past.isEmpty());
        books = past.remove(past.size() - 1);
        return past.size();
    }

    int undoCount() {
        return past.size();
    }

    int save() {
        saved = books.copy();
        return books.items.size();
    }

    int restore() {
        state(saved != null);
        books = saved.copy();
        past.clear();
        return books.items.size();
    }

    int count(int what) {
        argument(in(what, 0, 8));
        List<Item> all = books.items;
        switch (what) {
            case 0: return all.size();
            case 1: return (int) all.stream().filter(i -> i.paid == NONE && !i.cancelled).count();
            case 2: return (int) all.stream().filter(i -> i.cancelled).count();
            case 3: return (int) all.stream().filter(i -> i.late).count();
            case 4: return books.rooms.size();
            case 5: return books.assets.size();
            case 6: return (int) books.assets.stream().filter(a -> a.soldDay != NONE).count();
            case 7: return books.prepaid.size();
            default: return brackets.size();
        }
    }

    int entry(int entry, int what) {
        Item i = at(books.items, entry);
        argument(in(what, 0, 6));
        return new int[] {i.kind, i.category, i.amount, i.invoiced, i.paid, i.cancelled ? 1 : 0,
            i.late ? 1 : 0}[what];
    }

    private int[] fraction(int month) {
        long top = 0;
        long bottom = 0;
        for (Room r : books.rooms) {
            for (int day = 30 * month; day < 30 * month + 30; day++) {
                bottom += r.area;
                if (r.from != NONE && r.from <= day && day <= r.to) {
                    top += r.area;
                }
            }
        }
        if (top == 0) {
            return new int[] {0, 1};
        }
        long divisor = BigInteger.valueOf(top).gcd(BigInteger.valueOf(bottom)).longValue();
        return new int[] {(int) (top / divisor), (int) (bottom / divisor)};
    }

    private long deductibleOf(int kind, int amount, int day) {
        int[] share = fraction(day / 30);
        return kind == 1 ? amount : kind == 2 ? (long) amount * share[0] / share[1] : 0;
    }

    int deductible(int entry) {
        Item i = at(books.items, entry);
        return i.counts() ? (int) deductibleOf(i.kind, i.amount, i.paid) : 0;
    }

    long total(int kind, int from, int to) {
        argument(in(kind, 0, 3) && in(from, 0, 359) && in(to, 0, 359) && from <= to);
        return books.items.stream().filter(i -> i.kind == kind && i.counts() && in(i.paid, from, to))
                .mapToLong(i -> i.amount).sum();
    }

    long byCategory(int category, boolean income) {
        argument(in(category, 0, 9));
        long sum = 0;
        for (int n = 0; n < books.items.size(); n++) {
            Item i = books.items.get(n);
            if (i.category == category && i.counts()) {
                sum += income ? (i.kind == 0 ? i.amount : 0) : deductible(n);
            }
        }
        return sum;
    }

    long open(int kind) {
        argument(in(kind, 0, 3));
        return books.items.stream().filter(i -> i.kind == kind && i.paid == NONE && !i.cancelled)
                .mapToLong(i -> i.amount).sum();
    }

    int oldestOpen() {
        for (int day = 0; day < 360; day++) {
            for (int n = 0; n < books.items.size(); n++) {
                Item i = books.items.get(n);
                if (i.invoiced == day && i.paid == NONE && !i.cancelled) {
                    return n;
                }
            }
        }
        throw new NoSuchElementException();
    }

    int room(int room, int what) {
        Room r = at(books.rooms, room);
        argument(in(what, 0, 2));
        return new int[] {r.area, r.from, r.to}[what];
    }

    int share(int month, boolean denominator) {
        argument(in(month, 0, 11));
        return fraction(month)[denominator ? 1 : 0];
    }

    private int sortOf(Asset a) {
        return a.price <= small ? 0 : a.price <= poolTop ? 1 : 2;
    }

    int asset(int asset, int what) {
        Asset a = at(books.assets, asset);
        argument(in(what, 0, 5));
        return new int[] {a.price, a.day, a.life, sortOf(a), a.soldDay, a.soldPrice}[what];
    }

    private long[] writtenByMonth(Asset a) {
        long[] written = new long[12];
        int bought = a.day / 30;
        if (sortOf(a) == 0) {
            written[bought] = a.price;
        } else if (sortOf(a) == 2) {
            long value = a.price;
            for (int month = bought; month < 12; month++) {
                if (a.soldDay != NONE && a.soldDay / 30 == month) {
                    written[month] = value;
                    break;
                }
                long inAll = Math.min(a.price, (long) a.price * (month - bought + 1) / a.life);
                written[month] = inAll - (a.price - value);
                value -= written[month];
            }
        }
        return written;
    }

    int written(int asset, int month) {
        Asset a = at(books.assets, asset);
        argument(in(month, 0, 11));
        return (int) writtenByMonth(a)[month];
    }

    int bookValue(int asset, int month) {
        Asset a = at(books.assets, asset);
        argument(in(month, 0, 11));
        if (month < a.day / 30 || sortOf(a) == 1 || a.soldDay != NONE && month >= a.soldDay / 30) {
            return 0;
        }
        int value = a.price;
        for (int m = 0; m <= month; m++) {
            value -= written(asset, m);
        }
        return value;
    }

    int pool(int quarter) {
        argument(in(quarter, 0, 3));
        return books.assets.stream().filter(a -> sortOf(a) == 1 && a.day < 90 * quarter + 90)
                .mapToInt(a -> a.price).sum();
    }

    int poolWritten(int quarter) {
        argument(in(quarter, 0, 3));
        int inAll = pool(quarter) * (quarter + 1) / 20;
        return quarter == 0 ? inAll : inAll - pool(quarter - 1) * quarter / 20;
    }

    long profit(int quarter) {
        argument(in(quarter, 0, 3));
        long sum = -poolWritten(quarter);
        for (int n = 0; n < books.items.size(); n++) {
            Item i = books.items.get(n);
            if (i.counts() && i.paid / 90 == quarter) {
                sum += i.kind == 0 ? i.amount : -deductible(n);
            }
        }
        for (int n = 0; n < books.assets.size(); n++) {
            Asset a = books.assets.get(n);
            if (a.soldDay != NONE && a.soldDay / 90 == quarter) {
                sum += a.soldPrice;
            }
            for (int month = 3 * quarter; month < 3 * quarter + 3; month++) {
                sum -= written(n, month);
            }
        }
        return sum;
    }

    long profitTo(int quarter) {
        argument(in(quarter, 0, 3));
        long sum = 0;
        for (int q = 0; q <= quarter; q++) {
            sum += profit(q);
        }
        return sum;
    }

    private long taxOf(long amount) {
        long thousandths = 0;
        long left = Math.max(0, amount);
        long before = 0;
        for (int[] bracket : brackets) {
            long part = Math.min(left, bracket[0] - before);
            thousandths += part * bracket[1];
            left -= part;
            before = bracket[0];
        }
        return (thousandths + left * topRate) / 1000;
    }

    long tax(int amount) {
        return taxOf(amount);
    }

    int rate(int amount) {
        int rate = topRate;
        for (int n = brackets.size() - 1; n >= 0; n--) {
            rate = brackets.get(n)[0] >= amount ? brackets.get(n)[1] : rate;
        }
        return rate;
    }

    long yearTax() {
        return taxOf(profitTo(3));
    }

    int prepayment(int quarter) {
        argument(in(quarter, 0, 3));
        if (quarter >= books.prepaid.size()) {
            throw new NoSuchElementException();
        }
        return (int) (long) books.prepaid.get(quarter);
    }

    int recomputed(int quarter) {
        argument(in(quarter, 0, 3));
        long before = 0;
        for (int q = 0; q < quarter; q++) {
            before += recomputed(q);
        }
        return (int) due(quarter, before);
    }

    int correction(int quarter) {
        int before = prepayment(quarter);
        return recomputed(quarter) - before;
    }

    long settlement() {
        state(books.prepaid.size() == 4);
        return yearTax() - books.prepaid.get(0) - books.prepaid.get(1) - books.prepaid.get(2)
                - books.prepaid.get(3);
    }

    long interest() {
        long sum = 0;
        for (int q = 0; q < books.prepaid.size(); q++) {
            sum += Math.max(0L, correction(q)) * interestRate * (4 - q) / 1000;
        }
        return sum;
    }

    double effectiveRate() {
        if (profitTo(3) <= 0) {
            throw new NoSuchElementException();
        }
        return yearTax() * 100.0 / profitTo(3);
    }

    long whatIf(int kind, int amount, int day) {
        argument(in(kind, 0, 3) && in(amount, 1, 10000000) && in(day, 0, 359));
        long profit = profitTo(3) + (kind == 0 ? amount : -deductibleOf(kind, amount, day));
        return taxOf(profit) - yearTax();
    }

    /** What is missing is the least step: a cent of income never leaves more than a cent. */
    int neededIncome(int net) {
        argument(in(net, 1, 10000000));
        long profit = profitTo(3);
        long income = net;
        while (income <= 100000000) {
            long left = income - (taxOf(profit + income) - taxOf(profit));
            if (left >= net) {
                return (int) income;
            }
            income += net - left;
        }
        throw new NoSuchElementException();
    }

    private long[] balances() {
        long[] balances = new long[360];
        long balance = books.start;
        for (int day = 0; day < 360; day++) {
            for (Item i : books.items) {
                if (i.counts() && i.paid == day) {
                    balance += i.kind == 0 ? i.amount : -i.amount;
                }
            }
            for (Asset a : books.assets) {
                balance -= a.day == day ? a.price : 0;
                balance += a.soldDay == day ? a.soldPrice : 0;
            }
            if (day % 90 == 89 && day / 90 < books.prepaid.size()) {
                balance -= books.prepaid.get(day / 90);
            }
            balances[day] = balance;
        }
        return balances;
    }

    long balance(int day) {
        argument(in(day, 0, 359));
        return balances()[day];
    }

    int lowestDay() {
        long[] balances = balances();
        int lowest = 359;
        for (int day = 358; day >= 0; day--) {
            lowest = balances[day] <= balances[lowest] ? day : lowest;
        }
        return lowest;
    }

    int daysBelow(int balance) {
        int days = 0;
        for (long b : balances()) {
            days += b < balance ? 1 : 0;
        }
        return days;
    }

    int bestMonth() {
        long[] months = new long[12];
        for (Item i : books.items) {
            if (i.counts() && i.kind == 0) {
                months[i.paid / 30] += i.amount;
            }
        }
        for (Asset a : books.assets) {
            if (a.soldDay != NONE) {
                months[a.soldDay / 30] += a.soldPrice;
            }
        }
        int best = 11;
        for (int month = 10; month >= 0; month--) {
            best = months[month] >= months[best] ? month : best;
        }
        return best;
    }
}
