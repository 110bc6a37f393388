/** Promises 14 showing (its weight) and 16 holds: what rules say of a showing. */
public final class WishesTest {
    public static void main(String[] args) {
        variables();
        variablesAtTheirEdges();
        arithmetic();
        comparisonsAtTheirEdges();
        wrapAround();
        binding();
        first();
        firstOfNoEpisode();
        weights();
        weightsAtTheirEdges();
        textsTakePlace();
        noSuchOnes();
        deepest();
        Check.finish();
    }

    /** Channel 2, slots 10 up to 25, title 7, episode 3, live, of a source with trust 6. */
    private static GuideDesk desk() {
        GuideDesk desk = new GuideDesk();
        desk.channels(3);
        desk.source(2);
        desk.source(6);
        desk.notice(1, 2, 10, 25, 7, 3, true);
        desk.notice(0, 0, 30, 31, 8, 0, false);
        return desk;
    }

    private static void condition(boolean want, String condition) {
        GuideDesk desk = desk();
        Check.due("read " + condition, 0, Check.read(desk, "never if " + condition + ";"));
        Check.due(condition, want ? 1 : 0, desk.holds(0, 0, 2));
    }

    private static void variables() {
        Check.promise(16, "VARS are of a SHOWING (trust: of the SOURCE of its NOTICE); live: its NOTICE is so");
        condition(true, "title == 7");
        condition(true, "episode == 3");
        condition(true, "channel == 2");
        condition(true, "from == 10");
        condition(true, "until == 25");
        condition(true, "length == 15");
        condition(true, "trust == 6");
        condition(true, "live");
        condition(true, "first");
        GuideDesk desk = desk();
        Check.read(desk, "never if live; never if trust == 2; never if channel == 0; never if episode == 0;");
        Check.due("not live", 0, desk.holds(0, 1, 2));
        Check.due("the other trust", 1, desk.holds(1, 1, 2));
        Check.due("the other channel", 1, desk.holds(2, 1, 2));
        Check.due("no episode", 1, desk.holds(3, 1, 2));
        // With an over a showing is longer; its notice stays.
        desk.over(2, 25, 4);
        Check.read(desk, "never if until == 29 and length == 19 and trust == 6;");
        Check.due("pushed", 1, desk.holds(0, 0, 3));
        Check.due("as known before", 0, desk.holds(0, 0, 2));
    }

    private static void variablesAtTheirEdges() {
        Check.promise(16, "VARS are of a SHOWING");
        String least = "title == 1 and episode == 0 and channel == 0 and from == 0 and until == 1 and length == 1 and trust == 1";
        String most = "title == 31 and episode == 31 and channel == 5 and from == 287 and until == 288 and trust == 9";
        String whole = "channel == 1 and from == 0 and until == 288 and length == 288";
        GuideDesk desk = new GuideDesk();
        desk.channels(6);
        desk.source(1);
        desk.source(9);
        desk.notice(0, 0, 0, 1, 1, 0, false);
        desk.notice(1, 5, 287, 288, 31, 31, true);
        desk.notice(1, 1, 0, 288, 2, 1, true);
        Check.due("read", 0, Check.read(desk, "never if " + least + "; never if " + whole + "; never if " + most + ";"));
        for (int rule = 0; rule < 3; rule++) {
            for (int k = 0; k < 3; k++) {
                Check.due("rule " + rule + " of showing " + k, rule == k ? 1 : 0, desk.holds(rule, k, 3));
            }
        }
    }

    private static void arithmetic() {
        Check.promise(16, "E: PART {('+' | '-') PART}.   PART: UNIT {'*' UNIT}.   UNIT: INT | VAR | '(' E ')'");
        condition(true, "10 - 3 - 2 == 5");
        condition(true, "10 - (3 - 2) == 9");
        condition(true, "2 + 3 * 4 == 14");
        condition(true, "2 * 3 + 4 == 10");
        condition(true, "(2 + 3) * 4 == 20");
        condition(true, "20 - 2 * 3 * 2 + 1 == 9");
        condition(true, "1 - 2 < 0");
        condition(false, "3 < 3");
        condition(true, "3 <= 3");
        condition(false, "4 <= 3");
        condition(true, "3 != 4");
        condition(false, "3 != 3");
        condition(false, "3 == 4");
        condition(true, "title * 2 - 4 == from");
        condition(true, "from + length == until");
        condition(true, "0007 == title");
    }

    private static void comparisonsAtTheirEdges() {
        Check.promise(16, "LIT: .. E ('==' | '!=' | '<' | '<=') E");
        // Each row: a number, and whether it is == != < <= to 7, the title.
        String[] numbers = {"6", "7", "8", "0", "0 - 7", "0 - 8"};
        String[] due = {"0100", "1001", "0111", "0100", "0100", "0100"};
        String[] signs = {"==", "!=", "<", "<="};
        for (int i = 0; i < numbers.length; i++) {
            for (int j = 0; j < signs.length; j++) {
                condition(due[i].charAt(j) == '1', "title " + signs[j] + " " + numbers[i]);
            }
        }
    }

    private static void wrapAround() {
        Check.promise(16, "Ints of 32 bits that wrap");
        String greatest = "(4096*4096*127+(4096*4096-1))";
        String least = "(0-4096*4096*127-4096*4096)";
        condition(true, "0 < " + greatest);
        condition(true, least + " < 0");
        condition(true, greatest + " + 1 == " + least);
        condition(true, least + " - 1 == " + greatest);
        condition(true, greatest + " + " + greatest + " == 0 - 2");
        condition(true, least + " + " + least + " == 0");
        condition(true, "0 - " + least + " == " + least);
        condition(true, greatest + " * " + greatest + " == 1");
        condition(true, greatest + " * 2 == 0 - 2");
        condition(true, least + " * 2 == 0");
        condition(true, least + " * (0 - 1) == " + least);
        condition(true, least + " < " + greatest);
        condition(false, greatest + " <= " + least);
        // 9999 * 9999 * 9999 is 999700029999, of which 32 bits are -1027349969.
        condition(true, "9999 * 9999 * 9999 == 0 - 9999 * 9999 * 10 - 2755 * 9999 - 2714");
        condition(true, "9999 * 9999 * 9999 < 0");
        condition(true, "4096 * 4096 * 256 == 0");
        condition(true, "4096 * 4096 * 128 < 0");
        condition(true, "4096 * 4096 * 128 - 1 == 4096 * 4096 * 127 + (4096 * 4096 - 1)");
        condition(true, "0 - 4096 * 4096 * 128 == 4096 * 4096 * 128");
        // A comparison is no difference: the greatest is not below the least.
        condition(false, "4096 * 4096 * 128 - 1 < 4096 * 4096 * 128");
    }

    private static void binding() {
        Check.promise(16, "COND: ALL {'or' ALL}.   ALL: LIT {'and' LIT}");
        condition(true, "live or live and 1 == 2");
        condition(true, "1 == 2 and live or live");
        condition(false, "1 == 2 and live or 1 == 2");
        condition(true, "1 == 2 or 2 == 2 and live");
        condition(false, "1 == 2 or 2 == 2 and live and 3 < 3");
        condition(true, "1 == 1 and 2 == 2 and live or 1 == 2 and first");
        condition(true, "1 + 1 == 2 and 5 - 1 <= 2 * 2");
        condition(false, "live and title == 8 or title == 9");
        condition(true, "live and first and 1 == 1 and 1 != 2 and 1 < 2 and 2 <= 2");
    }

    private static void first() {
        Check.promise(16, "first: no SHOWING of a lesser number is ONE with it");
        GuideDesk desk = new GuideDesk();
        desk.channels(2);
        desk.source(1);
        desk.notice(0, 1, 0, 5, 1, 1, false);
        desk.notice(0, 0, 3, 5, 1, 1, false);
        desk.notice(0, 0, 6, 8, 1, 0, false);
        desk.notice(0, 0, 8, 9, 1, 0, false);
        desk.notice(0, 0, 9, 11, 1, 2, false);
        Check.read(desk, "wish 5 if first;");
        int[] due = {1, 0, 1, 1, 1};
        for (int k = 0; k < due.length; k++) {
            Check.due("first " + k, due[k], desk.holds(0, k, 5));
        }
        desk.notice(0, 1, 0, 5, 2, 1, false);
        Check.due("first of what is known", 1, desk.holds(0, 1, 6));
        Check.due("as known before", 0, desk.holds(0, 1, 5));
    }

    private static void firstOfNoEpisode() {
        Check.promise(16, "first: no SHOWING of a lesser number is ONE with it");
        GuideDesk desk = new GuideDesk();
        desk.source(1);
        int[] episodes = {0, 0, 31, 0, 31, 1};
        for (int i = 0; i < episodes.length; i++) {
            desk.notice(0, 0, i, i + 1, 31, episodes[i], false);
        }
        Check.read(desk, "never if first;");
        int[] due = {1, 1, 1, 1, 0, 1};
        for (int k = 0; k < due.length; k++) {
            Check.due("showing " + k, due[k], desk.holds(0, k, 6));
        }
    }

    private static void weights() {
        Check.promise(14, "WEIGHT of a SHOWING: if a never holds 0; else the greatest INT of the wishes that hold, "
            + "0 without one");
        GuideDesk desk = desk();
        Check.due("without wishes", 0, desk.showing(0, 2, 6));
        Check.read(desk, "wish 5 if live; wish 9 if title == 7; wish 7 if first; wish 1000 if title == 9;");
        Check.due("the greatest", 9, desk.showing(0, 2, 6));
        Check.due("the one that holds", 7, desk.showing(1, 2, 6));
        Check.read(desk, "wish 5 if live; never if title == 7; wish 9 if first;");
        Check.due("a never in the midst", 0, desk.showing(0, 2, 6));
        Check.due("a never that does not hold", 9, desk.showing(1, 2, 6));
        Check.due("a wish holds all the same", 1, desk.holds(2, 0, 2));
        Check.read(desk, "wish 1000 if live; never if live;");
        Check.due("a never behind", 0, desk.showing(0, 2, 6));
        Check.due("no wish holds", 0, desk.showing(1, 2, 6));
    }

    private static void weightsAtTheirEdges() {
        Check.promise(14, "6: WEIGHT");
        String[] texts = {"", "wish 1 if live;", "wish 1000 if live;", "wish 999 if live; wish 1000 if live;",
            "wish 1000 if live; wish 999 if live;", "wish 1 if live; wish 1 if live;", "never if live;",
            "never if live; wish 1000 if live;", "wish 1000 if 1 == 2;", "wish 1000 if 1 == 2; wish 1 if live;",
            "never if 1 == 2; wish 2 if live; never if 1 == 2;"};
        int[] due = {0, 1, 1000, 1000, 1000, 1, 0, 0, 0, 1, 2};
        for (int i = 0; i < texts.length; i++) {
            GuideDesk desk = desk();
            Check.due("read " + texts[i], 0, Check.read(desk, texts[i]));
            Check.due("weight by " + texts[i], due[i], desk.showing(0, 2, 6));
        }
        GuideDesk desk = desk();
        Check.read(desk, "wish 1 if live;".repeat(19) + "wish 2 if live;");
        Check.due("by the twentieth rule", 2, desk.showing(0, 2, 6));
        Check.read(desk, "wish 1 if live;".repeat(19) + "never if live;");
        Check.due("by a never behind nineteen", 0, desk.showing(0, 2, 6));
    }

    private static void textsTakePlace() {
        Check.promise(4, "A text with a FAULT changes nothing; else it is in place of the one ahead");
        GuideDesk desk = desk();
        Check.read(desk, "wish 5 if live; wish 6 if live;");
        Check.read(desk, "wish 4 if live;");
        Check.due("in place of the one ahead", 4, desk.showing(0, 2, 6));
        Check.due("one rule", 1, desk.count(3));
        Check.read(desk, "wish 3 if live; wish 0 if live;");
        Check.due("a wrong one changes nothing", 4, desk.showing(0, 2, 6));
        Check.read(desk, "wish 2 if live; oh");
        Check.due("a faulty one changes nothing", 4, desk.showing(0, 2, 6));
        desk.read();
        Check.due("an empty one takes all", 0, desk.showing(0, 2, 6));
        Check.due("no rule", -1, desk.holds(0, 0, 2));
    }

    private static void noSuchOnes() {
        Check.promise(16, "1, 0. NONE: no such ones");
        GuideDesk desk = desk();
        Check.due("without a rule", -1, desk.holds(0, 0, 2));
        Check.read(desk, "wish 5 if live; wish 6 if first;");
        int[][] wrong = {{-1, 0, 2}, {2, 0, 2}, {20, 0, 2}, {Check.LEAST, 0, 2}, {Check.GREATEST, 0, 2}, {0, -1, 2},
            {0, 2, 2}, {0, 1, 1}, {0, Check.LEAST, 2}, {0, Check.GREATEST, 2}, {0, 0, 3}, {0, 0, -1}, {0, 0, 0},
            {0, 0, Check.LEAST}, {0, 0, Check.GREATEST}};
        for (int[] row : wrong) {
            Check.due("holds " + row[0] + " " + row[1] + " " + row[2], -1, desk.holds(row[0], row[1], row[2]));
        }
        Check.due("the last rule", 1, desk.holds(1, 1, 2));
        Check.due("it does not hold", 0, desk.holds(0, 1, 2));
    }

    private static void deepest() {
        Check.promise(16, "Whether a RULE holds");
        String left = "1+2*(".repeat(6) + "1+2*3" + ")".repeat(6);
        condition(true, "1 == 2 or live and " + left + " == " + left);
        condition(true, "1 == 2 or live and 0 + 1 * title == 1 + 3 * (1 + 1 * (1 + 0 * (1 + 1 * (1 + 1 * (1 + 1 * (1)))))) ");
        condition(true, left + " == 511");
        condition(true, "1 == 2" + " or 1 == 2".repeat(90) + " or live");
        condition(false, "live" + " and live".repeat(190) + " and 1 == 2");
    }
}
