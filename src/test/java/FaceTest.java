import java.io.IOException;
import java.lang.reflect.Field;
import java.lang.reflect.Method;
import java.lang.reflect.Modifier;
import java.nio.file.Files;
import java.nio.file.Path;
import java.util.ArrayList;
import java.util.Arrays;
import java.util.List;
import java.util.Set;
import java.util.TreeSet;
import java.util.regex.Matcher;
import java.util.regex.Pattern;

/** The document's face, member by member, and those rules of LANGUAGE.md that can be seen from outside. */
public final class FaceTest {
    private static final String[] FACE = {
        "int addAsset(int, int, int) IllegalArgumentException IllegalStateException",
        "int addEntry(int, int, int, int, int) IllegalArgumentException IllegalStateException",
        "int addRoom(int) IllegalArgumentException IllegalStateException",
        "int append(int, int, int, int, int) IllegalStateException",
        "int asset(int, int) IndexOutOfBoundsException IllegalArgumentException",
        "long balance(int) IllegalArgumentException",
        "int bestMonth()",
        "int bookValue(int, int) IndexOutOfBoundsException IllegalArgumentException",
        "long byCategory(int, boolean) IllegalArgumentException",
        "int cancel(int) IndexOutOfBoundsException IllegalStateException",
        "int closeQuarter() IllegalStateException",
        "int correction(int) IllegalArgumentException NoSuchElementException",
        "int count(int) IllegalArgumentException",
        "int daysBelow(int)",
        "int deductible(int) IndexOutOfBoundsException",
        "double effectiveRate() NoSuchElementException",
        "int entry(int, int) IndexOutOfBoundsException IllegalArgumentException",
        "int errorPosition()",
        "long interest()",
        "int load() IllegalArgumentException",
        "int lowestDay()",
        "int neededIncome(int) IllegalArgumentException NoSuchElementException",
        "int oldestOpen() NoSuchElementException",
        "long open(int) IllegalArgumentException",
        "int pay(int, int) IndexOutOfBoundsException IllegalArgumentException IllegalStateException",
        "int pool(int) IllegalArgumentException",
        "int poolWritten(int) IllegalArgumentException",
        "int prepayment(int) IllegalArgumentException NoSuchElementException",
        "long profit(int) IllegalArgumentException",
        "long profitTo(int) IllegalArgumentException",
        "int rate(int)",
        "int recomputed(int) IllegalArgumentException",
        "int restore() IllegalStateException",
        "int room(int, int) IndexOutOfBoundsException IllegalArgumentException",
        "int save()",
        "int sellAsset(int, int, int) IndexOutOfBoundsException IllegalArgumentException IllegalStateException",
        "int setOffice(int, int, int) IndexOutOfBoundsException IllegalArgumentException",
        "int setStart(int) IllegalArgumentException",
        "long settlement() IllegalStateException",
        "int share(int, boolean) IllegalArgumentException",
        "long tax(int)",
        "long total(int, int, int) IllegalArgumentException",
        "int truncate(int) IllegalArgumentException",
        "int undo() IllegalStateException",
        "int undoCount()",
        "long whatIf(int, int, int) IllegalArgumentException",
        "int written(int, int) IndexOutOfBoundsException IllegalArgumentException",
        "long yearTax()",
    };

    public static void main(String[] args) throws IOException {
        face();
        classesInside();
        source(Files.readString(Path.of("src/main/java/CashLedger.java")));
        Check.end();
    }

    private static String told(Method m) {
        StringBuilder text = new StringBuilder();
        text.append(m.getReturnType().getSimpleName()).append(' ').append(m.getName()).append('(');
        text.append(String.join(", ", Arrays.stream(m.getParameterTypes()).map(Class::getSimpleName).toList()));
        text.append(')');
        for (Class<?> e : m.getExceptionTypes()) {
            text.append(' ').append(e.getSimpleName());
        }
        return text.toString();
    }

    private static void face() {
        Class<?> face = CashLedger.class;
        Check.same("face: its modifiers", face.getModifiers(), Modifier.PUBLIC | Modifier.FINAL);
        Set<String> found = new TreeSet<>();
        Set<String> names = new TreeSet<>();
        for (Method m : face.getDeclaredMethods()) {
            if (Modifier.isPublic(m.getModifiers())) {
                found.add(told(m));
                names.add(m.getName());
            } else {
                Check.holds("rule 1: private " + m.getName(), Modifier.isPrivate(m.getModifiers()));
            }
        }
        Check.same("face: its methods", found.toString(), new TreeSet<>(List.of(FACE)).toString());
        for (Method m : face.getDeclaredMethods()) {
            Check.holds("rule 1: the name of " + m,
                    Modifier.isPublic(m.getModifiers()) || !names.contains(m.getName()));
        }
        for (Field f : face.getDeclaredFields()) {
            boolean none = f.getName().equals("NONE");
            Check.holds("rule 1: the field " + f.getName(), none || Modifier.isPrivate(f.getModifiers()));
        }
        Check.same("face: constructors", face.getDeclaredConstructors().length, 1);
    }

    private static void classesInside() {
        List<Class<?>> classes = new ArrayList<>(List.of(CashLedger.class.getDeclaredClasses()));
        Check.holds("rule 11: classes", classes.size() < 12);
        for (Class<?> c : classes) {
            Check.holds("rule 1: static " + c, Modifier.isStatic(c.getModifiers()));
            Check.holds("rule 1: not public " + c, !Modifier.isPublic(c.getModifiers()));
        }
        classes.add(CashLedger.class);
        for (Class<?> c : classes) {
            int fields = 0;
            for (Field f : c.getDeclaredFields()) {
                boolean fixed = Modifier.isStatic(f.getModifiers());
                fields += fixed ? 0 : 1;
                Check.holds("rule 5: " + f, !fixed || Modifier.isFinal(f.getModifiers()));
            }
            Check.holds("rule 11: fields of " + c, fields <= 20);
            for (Method m : c.getDeclaredMethods()) {
                Check.holds("rule 11: parameters of " + m, m.getParameterCount() <= 7);
            }
        }
    }

    private static void source(String text) {
        String code = text.replaceAll("(?s)/\\*.*?\\*/", "").replaceAll("//.*", "").replaceAll("\"[^\"]*\"", "\"\"");
        String[] ruledOut = {"->", "::", "\\bcatch\\b", "\\bfinally\\b", "\\bsynchronized\\b", "\\bassert\\b",
            "\\binstanceof\\b", "Exact\\b", "\\bvar\\b", "\\bObject\\b", "\\bSystem\\b", "\\bStrings?\\.",
            "import (?!java.util.NoSuchElementException;)", "\"\\s*\\+|\\+\\s*\"", "\\brequireNonNull\\b"};
        for (String pattern : ruledOut) {
            Check.holds("rules 2 to 6, 10, 13: " + pattern, !Pattern.compile(pattern).matcher(code).find());
        }
        Matcher thrown = Pattern.compile("throw\\s+new\\s+(\\w+)|\\bthrow\\b").matcher(code);
        while (thrown.find()) {
            Check.holds("rule 6: " + thrown.group(), List.of("IllegalStateException", "IllegalArgumentException",
                    "IndexOutOfBoundsException", "NoSuchElementException").contains(thrown.group(1)));
        }
        int opened = 0;
        int line = 0;
        for (String one : code.split("\n", -1)) {
            line++;
            Check.holds("rule 4: signs of line " + line, one.chars().allMatch(c -> c < 128));
            if (one.matches("    (    )?\\S.*\\{\\s*") && !one.contains(" class ")) {
                opened = line;
            } else if (one.matches("    (    )?\\}\\s*")) {
                Check.holds("rule 11: the method up to line " + line, line - opened <= 60);
            }
        }
    }
}
