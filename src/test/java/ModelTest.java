import java.lang.reflect.InvocationTargetException;
import java.lang.reflect.Method;
import java.lang.reflect.Modifier;
import java.nio.charset.StandardCharsets;
import java.util.ArrayList;
import java.util.Arrays;
import java.util.Comparator;
import java.util.List;
import java.util.Random;

/** All promises: random runs of 512 calls, each answer compared with the model's. */
public final class ModelTest {
    private static final int RUNS = 600;
    private static final int CALLS = 512;
    private static final int CALLS_OF_A_TEXT = 22;
    private static final String[] CHANGES = {"addEntry", "addEntry", "addEntry", "pay", "pay", "cancel", "addRoom",
        "setOffice", "setOffice", "addAsset", "addAsset", "sellAsset", "closeQuarter", "setStart", "undo", "undo",
        "save", "restore"};
    private static final int[] EDGES = {Integer.MIN_VALUE, -10000001, -10000000, -2, -1, -1, 0, 0, 1, 2, 3, 4, 5, 6,
        7, 8, 9, 10, 11, 12, 29, 30, 59, 60, 89, 90, 119, 120, 121, 179, 180, 269, 270, 359, 360, 400, 401, 500, 501,
        80000, 80001, 100000, 100001, 1000000, 5000000, 5000001, 10000000, 10000001, Integer.MAX_VALUE};

    private static int failures = 0;

    private ModelTest() {
    }

    public static void main(String[] args) {
        int runs = args.length > 0 ? Integer.parseInt(args[0]) : RUNS;
        int from = args.length > 1 ? Integer.parseInt(args[1]) : 0;
        for (int seed = from; seed < from + runs && failures < 5; seed++) {
            run(seed);
        }
        System.out.println("     " + runs + " runs of at most " + CALLS + " calls, " + failures + " failed");
        System.exit(failures == 0 ? 0 : 1);
    }

    private static List<Method> methods() {
        List<Method> methods = new ArrayList<>();
        for (Method m : CashLedger.class.getDeclaredMethods()) {
            if (Modifier.isPublic(m.getModifiers())) {
                methods.add(m);
            }
        }
        methods.sort(Comparator.comparing(Method::getName));
        return methods;
    }

    private static void run(int seed) {
        Random random = new Random(seed);
        List<Method> methods = methods();
        CashLedger ledger = new CashLedger();
        Model model = new Model();
        boolean wild = seed % 4 == 0;
        int changes = seed % 3 == 0 ? 20 : 60;
        // Some runs only grow behind their first calls, up to the greatest numbers of all things.
        boolean grows = seed % 5 < 2;
        for (int call = 0; call < CALLS; call++) {
            boolean fits = CALLS - call >= CALLS_OF_A_TEXT;
            if (random.nextInt(call < 10 ? 8 : grows ? 10000 : 100) == 0 && fits) {
                if (!readText(random, ledger, model, seed)) {
                    return;
                }
                call += CALLS_OF_A_TEXT - 1;
                continue;
            }
            Method method = methods.get(random.nextInt(methods.size()));
            if (random.nextInt(100) < changes) {
                String name = CHANGES[random.nextInt(CHANGES.length)];
                method = methods.stream().filter(m -> m.getName().equals(name)).findFirst().get();
            } else if (method.getName().equals("load") && random.nextInt(10) > 0) {
                continue;
            }
            if (grows && List.of("restore", "undo", "load").contains(method.getName()) && random.nextInt(9) > 0) {
                continue;
            }
            Object[] arguments = arguments(random, method, model, wild);
            if (!same(method, arguments, ledger, model, seed + "/" + call)) {
                return;
            }
        }
    }

    private static boolean same(Method method, Object[] arguments, CashLedger ledger, Model model, String where) {
        String got = answer(method, ledger, arguments);
        String due;
        try {
            Object[] forModel = arguments;
            Class<?>[] types = method.getParameterTypes();
            if (method.getName().equals("append")) {
                int[] words = Arrays.stream(arguments).mapToInt(a -> (Integer) a).toArray();
                forModel = new Object[] {words};
                types = new Class<?>[] {int[].class};
            }
            due = answer(Model.class.getDeclaredMethod(method.getName(), types), model, forModel);
        } catch (NoSuchMethodException e) {
            due = e.toString();
        }
        if (!got.equals(due)) {
            failures++;
            System.out.println("run " + where + ": " + method.getName() + Arrays.toString(arguments) + " answered "
                    + got + ", due is " + due);
        }
        return got.equals(due);
    }

    private static String answer(Method method, Object of, Object[] arguments) {
        try {
            return String.valueOf(method.invoke(of, arguments));
        } catch (InvocationTargetException e) {
            return "throws." + e.getCause().getClass().getSimpleName();
        } catch (IllegalAccessException e) {
            return e.toString();
        }
    }

    // ---- Arguments that mostly fit, so that runs get somewhere

    private static Object[] arguments(Random random, Method method, Model model, boolean wild) {
        Class<?>[] types = method.getParameterTypes();
        int[] fitting = fitting(random, method.getName(), model);
        Object[] arguments = new Object[types.length];
        for (int i = 0; i < types.length; i++) {
            if (types[i] == boolean.class) {
                arguments[i] = random.nextBoolean();
            } else if (random.nextInt(wild ? 6 : 40) == 0) {
                arguments[i] = EDGES[random.nextInt(EDGES.length)];
            } else {
                arguments[i] = fitting[i];
            }
        }
        return arguments;
    }

    private static int[] fitting(Random r, String name, Model model) {
        int entry = r.nextInt(model.count(0) + (r.nextInt(9) == 0 ? 1 : 0) + (model.count(0) == 0 ? 1 : 0));
        int room = r.nextInt(Math.max(1, model.count(4)));
        int asset = r.nextInt(Math.max(1, model.count(5)));
        int day = day(r);
        switch (name) {
            case "append": return new int[] {0, r.nextInt(256) << 8, 0, 0, r.nextInt(256)};
            case "truncate": return new int[] {r.nextInt(30)};
            case "addEntry": return new int[] {r.nextBoolean() ? 0 : r.nextInt(4), r.nextInt(10), amount(r), day(r), dayOrNone(r)};
            case "pay": return new int[] {entry, dayOrNone(r)};
            case "cancel": case "deductible": return new int[] {entry};
            case "addRoom": return new int[] {1 + r.nextInt(500)};
            case "setOffice": return new int[] {room, dayOrNone(r), 359 - r.nextInt(200)};
            case "addAsset": return new int[] {price(r), day, 1 + r.nextInt(r.nextBoolean() ? 14 : 120)};
            case "sellAsset": return new int[] {asset, 359 - r.nextInt(260), price(r)};
            case "setStart": return new int[] {r.nextInt(20000001) - 10000000};
            case "count": return new int[] {r.nextInt(9)};
            case "entry": return new int[] {entry, r.nextInt(7)};
            case "total": return new int[] {r.nextInt(4), day, day + r.nextInt(360 - day)};
            case "byCategory": return new int[] {r.nextInt(10), 0};
            case "open": return new int[] {r.nextInt(4)};
            case "room": return new int[] {room, r.nextInt(3)};
            case "share": return new int[] {r.nextInt(12), 0};
            case "asset": return new int[] {asset, r.nextInt(6)};
            case "written": case "bookValue": return new int[] {asset, r.nextInt(12)};
            case "tax": case "rate": case "daysBelow": return new int[] {r.nextBoolean() ? amount(r) : r.nextInt()};
            case "whatIf": return new int[] {r.nextInt(4), amount(r), day};
            case "neededIncome": return new int[] {amount(r)};
            case "balance": return new int[] {day};
            default: return new int[] {r.nextInt(4)};
        }
    }

    private static int day(Random r) {
        return r.nextInt(4) == 0 ? Math.max(0, r.nextInt(13) * 30 - 1) : r.nextInt(360);
    }

    private static int dayOrNone(Random r) {
        return r.nextInt(5) == 0 ? -1 : day(r);
    }

    private static int amount(Random r) {
        return 1 + r.nextInt(r.nextBoolean() ? 10000000 : 2000);
    }

    private static int price(Random r) {
        int[] most = {5000000, 200, 100, 120000};
        return 1 + r.nextInt(most[r.nextInt(most.length)]);
    }

    // ---- Setup texts: made by the grammar, then sometimes spoiled

    private static boolean readText(Random r, CashLedger ledger, Model model, int seed) {
        String text = text(r);
        ledger.truncate(0);
        model.truncate(0);
        byte[] bytes = text.getBytes(StandardCharsets.ISO_8859_1);
        for (int at = 0; at < bytes.length && at < 380; at += 20) {
            int[] words = new int[5];
            for (int i = 0; i < 5; i++) {
                words[i] = Ledgers.word(bytes, at + 4 * i);
            }
            ledger.append(words[0], words[1], words[2], words[3], words[4]);
            model.append(words);
        }
        String got = ledger.errorPosition() + " ";
        String due = model.errorPosition() + " ";
        try {
            got += ledger.load();
        } catch (IllegalArgumentException e) {
            got += e.getClass().getSimpleName();
        }
        try {
            due += model.load();
        } catch (IllegalArgumentException e) {
            due += e.getClass().getSimpleName();
        }
        if (!got.equals(due)) {
            failures++;
            System.out.println("run " + seed + ": «" + text + "» answered " + got + ", due is " + due);
        }
        return got.equals(due);
    }

    private static String text(Random r) {
        StringBuilder text = new StringBuilder();
        List<Integer> limits = new ArrayList<>();
        int most = r.nextBoolean() ? 40000000 : 5000;
        int statements = 1 + r.nextInt(9);
        String seen = "";
        for (int i = 0; i < statements; i++) {
            int sort = r.nextInt(8);
            if (sort < 4 && seen.indexOf('0' + sort) >= 0 && r.nextInt(9) > 0) {
                sort = 4 + r.nextInt(4);
            }
            seen += sort;
            text.append(i == 0 ? "" : ";");
            int limit = (limits.isEmpty() ? 0 : limits.get(limits.size() - 1)) + 1 + r.nextInt(most / 4);
            if (sort == 4 || sort == 5) {
                limits.add(limit);
            }
            text.append(statement(r, sort, limit));
        }
        if (r.nextInt(5) < 2) {
            spoil(r, text);
        }
        return text.toString();
    }

    private static String statement(Random r, int sort, int limit) {
        int small = r.nextInt(r.nextBoolean() ? 200 : 1000000);
        switch (sort) {
            case 0: return "start " + r.nextInt(10000001);
            case 1: return "assets " + small + " " + (small + r.nextInt(r.nextInt(9) == 0 ? 1000001 : 1000001 - small));
            case 2: return "interest" + r.nextInt(101);
            case 3: return "top " + (r.nextBoolean() ? 900 : r.nextInt(901));
            case 4: case 5: return "bracket " + limit + "  " + r.nextInt(r.nextInt(9) == 0 ? 905 : 901);
            case 6: return " room " + (1 + r.nextInt(500));
            default: return "room" + (1 + r.nextInt(500)) + "office" + r.nextInt(180) + " 0" + (180 + r.nextInt(181));
        }
    }

    private static void spoil(Random r, StringBuilder text) {
        String[] parts = {"", ";", " ", "x", "0", "9", "00000000", "office", "room", "top", "\u00e4", "-", "99999999",
            "bracket 5 5", "A", "\n", "start", "359 "};
        for (int times = r.nextInt(3); times >= 0; times--) {
            int at = r.nextInt(text.length() + 1);
            int end = Math.min(text.length(), at + (r.nextBoolean() ? 0 : r.nextInt(12)));
            text.replace(at, end, parts[r.nextInt(parts.length)]);
        }
    }
}
