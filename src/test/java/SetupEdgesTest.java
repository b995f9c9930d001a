import java.util.List;

/** Boundaries of section 9 and promise 4: what a setup text may hold, and where its error is. */
public final class SetupEdgesTest {
    private static final String[] WORDS = {"start", "assets", "interest", "top", "bracket", "room", "office", "word"};
    private static final String BEGINS = "start assets interest top bracket room";

    public static void main(String[] args) {
        errorPositionChangesNothing();
        atLeastOneStatement();
        oneStatementBehindEachSemicolon();
        everyByteBehindAText();
        everyByteBeforeAText();
        everyByteBetweenWordAndNumber();
        wordsAreTheLongestRuns();
        numbersAreTheLongestRuns();
        eightDigitsAtMost();
        leadingZerosDoNotMatter();
        spacesStandAroundEveryToken();
        noSpacesNeedStand();
        startRange();
        assetsRange();
        interestRange();
        topRange();
        bracketRange();
        roomRange();
        missingStatements();
        limitsGrow();
        oneOfEach();
        fiveBrackets();
        sixRooms();
        textsThatEndTooEarly();
        everyCutOfAText();
        tokensThatNoStatementContinuesWith();
        theFirstErrorCounts();
        textsOfAllLengths();
        Check.end();
    }

    private static void valid(String text) {
        Check.same("9: " + text, Ledgers.errorOf(text), Edge.NONE);
    }

    private static void error(String text, int position) {
        Check.same("9: " + text, Ledgers.errorOf(text), position);
    }

    private static CashLedger busyWith(String text) {
        CashLedger x = Edge.busy();
        x.truncate(0);
        Ledgers.put(x, text);
        return x;
    }

    private static void errorPositionChangesNothing() {
        for (String text : List.of("", "x", "start 9;assets 1 1;interest 9;top 9;bracket 9 9;room 9 office 9 9",
                "start 9;assets 1 1;interest 9;top 9;bracket 9 9;room 9;top 9")) {
            Check.same("4: changes nothing: " + text, Picture.of(() -> checked(busyWith(text))),
                    Picture.of(() -> busyWith(text)));
        }
        CashLedger x = busyWith("top 5;bracket 9 9");
        for (int i = 0; i < 5; i++) {
            Check.same("4: again and again", x.errorPosition(), Edge.NONE);
        }
    }

    private static CashLedger checked(CashLedger x) {
        x.errorPosition();
        return x;
    }

    private static void atLeastOneStatement() {
        error("", 0);
        error(" ", 1);
        error("     ", 5);
        error(";", 0);
        valid("room 1");
    }

    private static void oneStatementBehindEachSemicolon() {
        valid("room 1;room 1");
        error("room 1;", 7);
        error("room 1 ;", 8);
        error("room 1; ", 8);
        error("room 1;;", 7);
        error("room 1;;room 1", 7);
        error("room 1; ;room 1", 8);
        error(";room 1", 0);
        error("room 1;room 1;", 14);
    }

    private static boolean isDigit(int b) {
        return b >= '0' && b <= '9';
    }

    private static void everyByteBehindAText() {
        for (int b = 1; b <= 255; b++) {
            int due = b == ';' ? 6 : b == ' ' || isDigit(b) ? Edge.NONE : 5;
            Check.same("9: behind, the byte " + b, Ledgers.errorOf("top 1" + (char) b), due);
        }
    }

    private static void everyByteBeforeAText() {
        for (int b = 1; b <= 255; b++) {
            Check.same("9: before, the byte " + b, Ledgers.errorOf((char) b + "top 1"), b == ' ' ? Edge.NONE : 0);
            Check.same("9: before and apart, the byte " + b, Ledgers.errorOf(" " + (char) b + " top 1"),
                    b == ' ' ? Edge.NONE : 1);
        }
    }

    private static void everyByteBetweenWordAndNumber() {
        for (int b = 1; b <= 255; b++) {
            boolean letter = b >= 'a' && b <= 'z';
            int due = b == ' ' || isDigit(b) ? Edge.NONE : letter ? 0 : 3;
            Check.same("9: between, the byte " + b, Ledgers.errorOf("top" + (char) b + "5"), due);
        }
    }

    private static void wordsAreTheLongestRuns() {
        for (int i = 0; i < 6; i++) {
            String word = WORDS[i];
            error(word + "a 1 2", 0);
            error(word + "z 1 2", 0);
            error("a" + word + " 1 2", 0);
            error("z" + word + " 1 2", 0);
            error("x" + word.substring(1) + " 1 2", 0);
            error(word.substring(0, word.length() - 1) + "x 1 2", 0);
            error(word.substring(1) + " 1 2", 0);
            error(word.substring(0, word.length() - 1) + " 1 2", 0);
            error(word.substring(0, 1).toUpperCase() + word.substring(1) + " 1 2", 0);
            error(word.toUpperCase() + " 1 2", 0);
            error(word + word + " 1 2", 0);
        }
        error("room 1 offic 1 2", 7);
        error("room 1 officea 1 2", 7);
        error("room 1 officez 1 2", 7);
        error("room 1 ffice 1 2", 7);
        error("room 1 affice 1 2", 7);
        error("room 1 officf 1 2", 7);
        error("room 1 Office 1 2", 7);
        error("s tart 1", 0);
        error("roomoffice", 0);
    }

    private static void numbersAreTheLongestRuns() {
        valid("top 900");
        error("top 9 00", 6);
        error("top 9/", 5);
        error("top 9:", 5);
        error("top 9.0", 5);
        error("top 9,0", 5);
        error("top -0", 4);
        error("top +1", 4);
        error("assets 12", 9);
        valid("assets 1 2");
        valid("bracket 09 90");
    }

    private static void eightDigitsAtMost() {
        valid("bracket 99999999 0");
        valid("bracket 10000000 0");
        error("bracket 100000000 0", 8);
        error("bracket 000000001 0", 8);
        valid("start 00000000");
        error("start 000000000", 6);
        valid("start 10000000");
        error("start 010000000", 6);
        valid("interest 00000100");
        error("interest 000000100", 9);
        valid("top 00000900");
        error("top 000000900", 4);
        valid("assets 00000001 00000001");
        error("assets 000000001 1", 7);
        error("assets 1 000000001", 9);
        valid("bracket 00000001 00000001");
        error("bracket 1 000000001", 10);
        valid("room 00000001 office 00000001 00000001");
        error("room 000000001", 5);
        error("room 1 office 000000001 1", 14);
        error("room 1 office 1 000000001", 16);
        error("top 4294967297", 4);
        error("top 18446744073709551617", 4);
        error("top " + "0".repeat(100), 4);
        error("top " + "9".repeat(396), 4);
        error("top 1 123456789", 6);
    }

    private static void leadingZerosDoNotMatter() {
        CashLedger x = Ledgers.of("start 00000077;assets 005 0007;top 0001;bracket 0010 00900;room 007 office 08 009");
        Check.same("9: leading zeros, start", x.balance(0), 77);
        Check.same("9: leading zeros, top", x.rate(11), 1);
        Check.same("9: leading zeros, limit", x.rate(10), 900);
        Check.same("9: leading zeros, area", x.room(0, 0), 7);
        Check.same("9: leading zeros, from", x.room(0, 1), 8);
        Check.same("9: leading zeros, to", x.room(0, 2), 9);
        x.addAsset(5, 0, 1);
        x.addAsset(7, 0, 1);
        x.addAsset(8, 0, 1);
        Check.same("9: leading zeros, SMALL", x.asset(0, 3), 0);
        Check.same("9: leading zeros, POOL", x.asset(1, 3), 1);
        Check.same("9: leading zeros, above POOL", x.asset(2, 3), 2);
    }

    private static void spacesStandAroundEveryToken() {
        valid("  start  5  ;  assets  1  2  ;  interest  3  ;  top  4  ;  bracket  5  6  ;  room  7  office  8  9  ");
        error("  start  5  ;  assets  1  2  ;  interest  3  ;  top  4  ;  bracket  5  6  ;  room  7  office  8  7  ", 97);
        error("top\t5", 3);
        error("top\n5", 3);
        error("top\r5", 3);
        error("top \u00a05", 4);
        error("top\u001f5", 3);
        error("top!5", 3);
    }

    private static void noSpacesNeedStand() {
        valid("start5;assets1 2;interest3;top4;bracket5 6;room7office8 9;room7");
        error("start5;assets1 2;interest3;top4;bracket5 6;room7office8 9room7", 57);
    }

    private static void startRange() {
        valid("start 0");
        valid("start 10000000");
        error("start 10000001", 6);
        error("start 99999999", 6);
        error("start -1", 6);
    }

    private static void assetsRange() {
        valid("assets 0 0");
        valid("assets 0 1000000");
        valid("assets 1000000 1000000");
        error("assets 1000001 1000001", 7);
        error("assets 1000001 1", 7);
        error("assets 0 1000001", 9);
        error("assets 1000000 1000001", 15);
        error("assets 1000000 999999", 15);
        error("assets 1 0", 9);
        valid("assets 1 1");
        valid("assets 80000 80000");
        error("assets 80000 79999", 13);
    }

    private static void interestRange() {
        valid("interest 0");
        valid("interest 100");
        error("interest 101", 9);
        error("interest 99999999", 9);
    }

    private static void topRange() {
        valid("top 0");
        valid("top 900");
        error("top 901", 4);
        error("top 99999999", 4);
    }

    private static void bracketRange() {
        error("bracket 0 5", 8);
        valid("bracket 1 0");
        valid("bracket 99999999 900");
        error("bracket 100000000 900", 8);
        error("bracket 1 901", 10);
        error("bracket 0 901", 8);
    }

    private static void roomRange() {
        error("room 0", 5);
        valid("room 1");
        valid("room 500");
        error("room 501", 5);
        valid("room 1 office 0 0");
        valid("room 1 office 0 359");
        valid("room 1 office 359 359");
        error("room 1 office 360 360", 14);
        error("room 1 office 359 360", 18);
        error("room 1 office 359 358", 18);
        error("room 1 office 1 0", 16);
        valid("room 1 office 1 1");
        error("room 1 office 0 360", 16);
        error("room 0 office 360 360", 5);
    }

    private static void missingStatements() {
        CashLedger x = Ledgers.of("room 1");
        Check.same("9: start 0", x.balance(0), 0);
        int[] prices = {80000, 80001, 100000, 100001};
        int[] sorts = {0, 1, 1, 2};
        for (int i = 0; i < 4; i++) {
            x.addAsset(prices[i], 0, 1);
            Check.same("9: assets 80000 100000, " + prices[i], x.asset(i, 3), sorts[i]);
        }
        Check.same("9: top 420", x.rate(1), 420);
        Check.same("9: no brackets", x.count(8), 0);
        Check.same("9: all is taxed with 420", x.tax(1000), 420);
        CashLedger y = Ledgers.of("top 500");
        y.closeQuarter();
        y.addEntry(0, 0, 1000000, 0, 0);
        Check.same("9: interest 5", y.interest(), 500000L * 5 * 4 / 1000);
        Check.same("9: no rooms", y.count(4), 0);
        Check.same("9: brackets alone, top 420", Ledgers.of("bracket 1 0").rate(2), 420);
    }

    private static void limitsGrow() {
        error("bracket 5 1;bracket 4 1", 20);
        error("bracket 5 1;bracket 5 1", 20);
        valid("bracket 5 1;bracket 6 1");
        error("bracket 1 1;bracket 2 1;bracket 3 1;bracket 4 1;bracket 4 1", 56);
        valid("bracket 1 1;bracket 2 1;bracket 3 1;bracket 4 1;bracket 5 1");
        error("bracket 9 1;bracket 10 1;bracket 9 1", 33);
        error("bracket 5 1;top 9;room 9;bracket 5 1", 33);
        valid("bracket 99999998 1;bracket 99999999 1");
        error("bracket 99999999 1;bracket 99999999 1", 27);
        error("bracket 99999999 1;bracket 100000000 1", 27);
        valid("bracket 5 900;bracket 6 0");
    }

    private static void oneOfEach() {
        error("start 1;start 1", 8);
        error("assets 1 1;assets 1 1", 11);
        error("interest 1;interest 1", 11);
        error("top 1;top 1", 6);
        error("start 1;assets 1 1;interest 1;top 1;bracket 1 1;room 1;start 1", 55);
        error("start 1;assets 1 1;interest 1;top 1;bracket 1 1;room 1;assets 1 1", 55);
        error("start 1;assets 1 1;interest 1;top 1;bracket 1 1;room 1;interest 1", 55);
        error("start 1;assets 1 1;interest 1;top 1;bracket 1 1;room 1;top 1", 55);
        valid("start 1;assets 1 1;interest 1;top 1;bracket 1 1;room 1;bracket 2 1;room 1");
        error("top 1; top", 7);
        error("top 1;top x", 6);
        error("start 1;start", 8);
    }

    private static void fiveBrackets() {
        String five = "bracket 1 1;bracket 2 2;bracket 3 3;bracket 4 4;bracket 5 5";
        valid(five);
        Check.same("9: five brackets", Ledgers.of(five).count(8), 5);
        error(five + ";bracket 6 6", 60);
        error(five + ";bracket", 60);
        error(five + "; bracket x", 61);
        valid(five + ";top 6");
    }

    private static void sixRooms() {
        String six = "room 1;room 2;room 3;room 4;room 5;room 6 office 1 1";
        valid(six);
        Check.same("9: six rooms", Ledgers.of(six).count(4), 6);
        error(six + ";room 7", 53);
        error(six + ";room", 53);
        error(six + ";  room x", 55);
        valid(six + ";top 6");
    }

    private static void textsThatEndTooEarly() {
        String[] early = {"start", "assets", "assets 1", "interest", "top", "bracket", "bracket 1", "room",
            "room 1 office", "room 1 office 1", "top 1;", "top 1;start", "room 1;room 1 office 5"};
        for (String text : early) {
            error(text, text.length());
            error(text + "   ", text.length() + 3);
            error("  " + text, text.length() + 2);
        }
    }

    /** For each length of the cut: whether it is valid (-), ends too early (e), or ends in a wrong token (w). */
    private static void everyCutOfAText() {
        String text = "start 5;room 12 office 13 14; top 9;assets 6 70";
        String cuts = "ewwwwee-ewwwee---wwwwweeeeew-eewwee-ewwwwweeee--";
        for (int end = 0; end < cuts.length(); end++) {
            String cut = text.substring(0, end);
            char due = cuts.charAt(end);
            int lastToken = Math.max(cut.lastIndexOf(' '), cut.lastIndexOf(';')) + 1;
            error(cut, due == '-' ? Edge.NONE : due == 'e' ? end : lastToken);
        }
        valid(text);
    }

    private static void tokensThatNoStatementContinuesWith() {
        behind("", BEGINS);
        behind("start ", "7");
        behind("start 5 ", "; end");
        behind("assets ", "7");
        behind("assets 5 ", "7");
        behind("assets 5 6 ", "; end");
        behind("interest ", "7");
        behind("interest 5 ", "; end");
        behind("top ", "7");
        behind("top 5 ", "; end");
        behind("bracket ", "7");
        behind("bracket 5 ", "7");
        behind("bracket 5 6 ", "; end");
        behind("room ", "7");
        behind("room 5 ", "office ; end");
        behind("room 5 office ", "7");
        behind("room 5 office 6 ", "7");
        behind("room 5 office 6 7 ", "; end");
        behind("bracket 5 6; ", BEGINS);
        behind("top 5; ", BEGINS.replace("top ", ""));
    }

    /** Each token behind a text: only those listed are accepted. */
    private static void behind(String text, String accepted) {
        List<String> good = List.of(accepted.split(" "));
        for (String token : List.of("start", "assets", "interest", "top", "bracket", "room", "office", "word", "7", ";",
                ",", "\u00e9", "{", "`", "end")) {
            int position = Ledgers.errorOf(text + (token.equals("end") ? "" : token));
            if (good.contains(token)) {
                Check.holds("9: " + text + token, position == Edge.NONE || position > text.length());
            } else {
                Check.same("9: " + text + token, position, text.length());
            }
        }
    }

    private static void theFirstErrorCounts() {
        error("top 901;x", 4);
        error("x;top 901", 0);
        error("room 0 x", 5);
        error("assets 5 4 3", 9);
        error("bracket 1 901;bracket 1 1", 10);
    }

    private static void textsOfAllLengths() {
        for (int length = 5; length <= 400; length++) {
            error("top 1" + " ".repeat(length - 5), Edge.NONE);
        }
        for (int at = 5; at < 400; at += 79) {
            error("top 1" + " ".repeat(at - 5) + "x", at);
        }
        error("top 1" + " ".repeat(394) + "x", 399);
        error("top 1" + " ".repeat(394) + ";", 400);
        error(" ".repeat(400), 400);
        error("x" + " ".repeat(399), 0);
        valid(" ".repeat(395) + "top 1");
        error(" ".repeat(396) + "top ", 400);
        error(" ".repeat(397) + "top", 400);
        error(" ".repeat(398) + "to", 398);
        valid("top 1;bracket 1 1" + ";room 1".repeat(6) + " ".repeat(341));
        error("top 1" + ";room 1".repeat(56), 48);
    }
}
