/** Promises 12 sent, 13 says, 14 showing, 15 showings: what quarrelling sources and overs make of a day. */
public final class DayTest {
    public static void main(String[] args) {
        says();
        quarrel();
        knownBy();
        noSuchOnes();
        overPushes();
        overLeavesGapsOut();
        overAtTheDaysEnd();
        overAtTheDaysBegin();
        overDoesNothing();
        oversInOrder();
        showings();
        runsOfOneNotice();
        oneAndDoubted();
        allMarks();
        mostShowings();
        Check.finish();
    }

    private static void says() {
        GuideDesk desk = new GuideDesk();
        desk.channels(2);
        desk.source(1);
        desk.source(9);
        desk.notice(0, 0, 10, 20, 1, 1, false);
        desk.notice(0, 0, 15, 25, 2, 1, false);
        desk.notice(0, 1, 10, 12, 3, 1, false);
        desk.notice(0, 0, 12, 14, 0, 0, false);
        desk.notice(1, 0, 10, 20, 4, 1, true);
        desk.over(0, 20, 5);
        Check.due("ahead", -1, desk.says(0, 0, 9, 6));
        Check.due("first", 0, desk.says(0, 0, 10, 6));
        Check.due("that nothing is sent", 3, desk.says(0, 0, 12, 6));
        Check.due("up to", 0, desk.says(0, 0, 14, 6));
        Check.due("the latest", 1, desk.says(0, 0, 15, 6));
        Check.due("overs say nothing", 1, desk.says(0, 0, 24, 6));
        Check.due("at slot 0", -1, desk.says(0, 1, 0, 6));
        Check.due("behind", -1, desk.says(0, 0, 25, 6));
        Check.due("the other source", 4, desk.says(1, 0, 12, 6));
        Check.due("no over", -1, desk.says(1, 0, 20, 6));
        Check.due("the other channel", 2, desk.says(0, 1, 10, 6));
        Check.due("known by 3", 0, desk.says(0, 0, 12, 3));
        Check.due("known by 1", 0, desk.says(0, 0, 15, 1));
        Check.due("known by 0", -1, desk.says(0, 0, 15, 0));
        Check.due("source 2", -1, desk.says(2, 0, 15, 6));
        Check.due("source -1", -1, desk.says(-1, 0, 15, 6));
        Check.due("channel 2", -1, desk.says(0, 2, 15, 6));
        Check.due("channel -1", -1, desk.says(0, -1, 15, 6));
        Check.due("slot -1", -1, desk.says(0, 0, -1, 6));
        Check.due("slot 288", -1, desk.says(0, 0, 288, 6));
        Check.due("n 7", -1, desk.says(0, 0, 15, 7));
        Check.due("n -1", -1, desk.says(0, 0, 15, -1));
        desk.notice(0, 1, 0, 288, 3, 1, false);
        Check.due("from slot 0", 6, desk.says(0, 1, 0, 7));
        Check.due("to slot 287", 6, desk.says(0, 1, 287, 7));
    }

    private static void quarrel() {
        GuideDesk desk = new GuideDesk();
        desk.source(5);
        desk.source(5);
        desk.source(8);
        desk.notice(1, 0, 0, 30, 1, 1, false);
        desk.notice(0, 0, 10, 30, 2, 1, false);
        Check.due("alone", 0, desk.sent(0, 5, 2));
        Check.due("of the same trust the least", 1, desk.sent(0, 10, 2));
        desk.notice(1, 0, 10, 30, 3, 1, false);
        Check.due("a later word of less", 1, desk.sent(0, 10, 3));
        Check.due("its own later word", 2, desk.says(1, 0, 10, 3));
        desk.notice(2, 0, 20, 25, 0, 0, false);
        Check.due("the greatest trust: nothing is sent", -1, desk.sent(0, 20, 4));
        Check.due("beside it", 1, desk.sent(0, 25, 4));
        desk.notice(0, 0, 20, 30, 4, 1, false);
        Check.due("still nothing", -1, desk.sent(0, 20, 5));
        Check.due("the latest of the least", 4, desk.sent(0, 25, 5));
        desk.notice(2, 0, 22, 23, 5, 1, false);
        Check.due("its latest", 5, desk.sent(0, 22, 6));
        Check.due("its earlier", -1, desk.sent(0, 23, 6));
    }

    private static void knownBy() {
        GuideDesk desk = new GuideDesk();
        desk.source(5);
        for (int i = 0; i < 5; i++) {
            desk.notice(0, 0, i, 10, 1 + i, 1, false);
        }
        for (int n = 5; n >= 0; n--) {
            Check.due("sent, known by " + n, n - 1, desk.sent(0, 9, n));
            Check.due("showings, known by " + n, n, desk.showings(n));
        }
        Check.due("the first notice again", 0, desk.sent(0, 0, 5));
    }

    private static void noSuchOnes() {
        GuideDesk desk = new GuideDesk();
        desk.source(5);
        desk.notice(0, 0, 0, 288, 1, 1, false);
        int[][] wrong = {{-1, 0, 1}, {1, 0, 1}, {0, -1, 1}, {0, 288, 1}, {0, 0, -1}, {0, 0, 2},
            {0, Integer.MAX_VALUE, 1}, {Integer.MIN_VALUE, 0, 1}};
        for (int[] row : wrong) {
            Check.due("sent " + row[0] + " " + row[1] + " " + row[2], -1, desk.sent(row[0], row[1], row[2]));
        }
        Check.due("showings -1", -1, desk.showings(-1));
        Check.due("showings 2", -1, desk.showings(2));
        int[][] none = {{-1, 1, 0}, {1, 1, 0}, {0, 2, 0}, {0, -1, 0}, {0, 0, 0}, {0, 1, -1}, {0, 1, 9}};
        for (int[] row : none) {
            Check.due("showing " + row[0] + " " + row[1] + " " + row[2], -1, desk.showing(row[0], row[1], row[2]));
        }
    }

    private static void overPushes() {
        GuideDesk desk = new GuideDesk();
        desk.channels(2);
        desk.source(5);
        desk.notice(0, 0, 0, 10, 1, 1, true);
        desk.notice(0, 0, 10, 20, 2, 1, false);
        desk.notice(0, 0, 20, 25, 3, 1, false);
        desk.notice(0, 1, 0, 20, 4, 1, true);
        desk.over(0, 10, 3);
        row(desk, 5, "0000000000000 1111111111 22222 ...");
        Check.due("the other channel stays", 3, desk.sent(1, 19, 5));
        Check.due("and has no more", -1, desk.sent(1, 20, 5));
        // In the midst of what is live it is longer, too.
        desk.over(0, 5, 1);
        row(desk, 6, "00000000000000 1111111111 22222 ...");
    }

    private static void overLeavesGapsOut() {
        GuideDesk desk = new GuideDesk();
        desk.source(5);
        desk.notice(0, 0, 0, 3, 1, 1, true);
        desk.notice(0, 0, 4, 6, 2, 1, false);
        desk.notice(0, 0, 7, 9, 3, 1, false);
        desk.notice(0, 0, 10, 12, 4, 1, false);
        desk.notice(0, 0, 14, 15, 5, 1, false);
        desk.over(0, 3, 2);
        row(desk, 6, "00000 11 22 . 33 .. 4 ...");
        GuideDesk more = new GuideDesk();
        more.source(5);
        more.source(9);
        more.notice(0, 0, 0, 3, 1, 1, true);
        more.notice(0, 0, 3, 12, 2, 1, false);
        more.notice(1, 0, 5, 7, 0, 0, false);
        more.over(0, 3, 1);
        Check.due("pushed", 0, more.sent(0, 3, 4));
        Check.due("pushed by one", 1, more.sent(0, 5, 4));
        Check.due("one gap is left out, one stays", -1, more.sent(0, 6, 4));
        Check.due("behind it all stays", 1, more.sent(0, 7, 4));
        Check.due("to its end", 1, more.sent(0, 11, 4));
        Check.due("not longer", -1, more.sent(0, 12, 4));
        more.over(0, 4, 1);
        Check.due("two runs come together", 3, more.showings(4));
        Check.due("as one showing", 2, more.showings(5));
        Check.due("of one notice", 12, more.showing(1, 5, 3));
    }

    private static void overAtTheDaysEnd() {
        GuideDesk desk = new GuideDesk();
        desk.source(5);
        desk.notice(0, 0, 0, 280, 1, 1, true);
        desk.notice(0, 0, 280, 286, 2, 1, false);
        desk.notice(0, 0, 286, 288, 3, 1, false);
        desk.over(0, 280, 4);
        Check.due("goes on", 0, desk.sent(0, 283, 4));
        Check.due("pushed", 1, desk.sent(0, 284, 4));
        Check.due("what is beyond is left out", 1, desk.sent(0, 287, 4));
        Check.due("two are left", 2, desk.showings(4));
        desk.over(0, 280, 48);
        Check.due("all is left out", 0, desk.sent(0, 287, 5));
        Check.due("one is left", 1, desk.showings(5));
        GuideDesk last = new GuideDesk();
        last.source(5);
        last.notice(0, 0, 0, 287, 1, 1, true);
        last.over(0, 287, 1);
        Check.due("the last slot", 0, last.sent(0, 287, 2));
    }

    private static void overAtTheDaysBegin() {
        GuideDesk desk = new GuideDesk();
        desk.source(5);
        desk.notice(0, 0, 0, 1, 1, 1, true);
        desk.notice(0, 0, 1, 2, 2, 1, true);
        desk.notice(0, 0, 2, 4, 3, 1, false);
        desk.over(0, 1, 2);
        row(desk, 4, "000 1 22 ..");
        desk.over(0, 4, 1);
        row(desk, 5, "000 11 22 ..");
        desk.notice(0, 0, 0, 1, 0, 0, true);
        Check.due("nothing is sent in slot 0", -1, desk.sent(0, 0, 6));
        row(desk, 6, ". 1 22 ..");
    }

    private static void overDoesNothing() {
        GuideDesk desk = new GuideDesk();
        desk.source(5);
        desk.notice(0, 0, 0, 5, 1, 1, false);
        desk.notice(0, 0, 7, 9, 0, 0, true);
        desk.over(0, 5, 2);
        desk.over(0, 9, 2);
        desk.over(0, 100, 2);
        Check.due("not live", -1, desk.sent(0, 5, 5));
        Check.due("nothing is sent", -1, desk.sent(0, 9, 5));
        Check.due("nothing is said", -1, desk.sent(0, 100, 5));
        Check.due("one showing", 1, desk.showings(5));
    }

    private static void oversInOrder() {
        GuideDesk desk = new GuideDesk();
        desk.source(5);
        // The over is told first: it does nothing until there is something live.
        desk.over(0, 10, 5);
        desk.notice(0, 0, 5, 10, 1, 1, true);
        Check.due("known by 1", -1, desk.sent(0, 10, 1));
        Check.due("all notices come first", 1, desk.sent(0, 14, 2));
        desk.notice(0, 0, 10, 12, 2, 1, true);
        Check.due("and push", 2, desk.sent(0, 15, 3));
        // The second over meets the row that the first one left.
        desk.over(0, 17, 2);
        Check.due("goes on from there", 2, desk.sent(0, 18, 4));
        Check.due("no further", -1, desk.sent(0, 19, 4));
        desk.notice(0, 0, 5, 10, 3, 1, false);
        Check.due("no longer live", 2, desk.sent(0, 10, 5));
    }

    private static void showings() {
        GuideDesk desk = new GuideDesk();
        desk.channels(3);
        desk.source(5);
        desk.notice(0, 2, 0, 5, 7, 3, false);
        desk.notice(0, 1, 3, 9, 8, 4, true);
        desk.notice(0, 0, 3, 4, 9, 0, false);
        desk.notice(0, 1, 0, 2, 10, 31, false);
        Check.due("showings", 4, desk.showings(4));
        int[][] due = {{3, 1, 0, 2, 10, 31, 0, 0, -1}, {0, 2, 0, 5, 7, 3, 0, 1, -1},
            {2, 0, 3, 4, 9, 0, 0, 2, -1}, {1, 1, 3, 9, 8, 4, 0, 3, -1}};
        for (int k = 0; k < due.length; k++) {
            for (int what = 0; what < 9; what++) {
                Check.due("showing " + k + " what " + what, due[k][what], desk.showing(k, 4, what));
            }
        }
        Check.due("known by 1", 2, desk.showing(0, 1, 1));
        Check.due("at the day's end", 5, desk.notice(0, 0, 280, 288, 1, 1, false) + 1);
        Check.due("until 288", 288, desk.showing(4, 5, 3));
    }

    private static void runsOfOneNotice() {
        GuideDesk desk = new GuideDesk();
        desk.source(5);
        desk.notice(0, 0, 0, 5, 1, 1, false);
        desk.notice(0, 0, 5, 10, 1, 1, false);
        Check.due("two notices are two", 2, desk.showings(2));
        desk.notice(0, 0, 2, 3, 2, 2, false);
        Check.due("one notice in two runs", 4, desk.showings(3));
        Check.due("the same fact", 0, desk.showing(2, 3, 0));
        Check.due("is one with", 0, desk.showing(2, 3, 7));
    }

    private static void oneAndDoubted() {
        GuideDesk desk = new GuideDesk();
        desk.source(5);
        int[][] marks = {{1, 0}, {1, 2}, {1, 0}, {2, 2}, {1, 2}, {1, 3}, {2, 2}, {3, 0}};
        for (int i = 0; i < marks.length; i++) {
            desk.notice(0, 0, i, i + 1, marks[i][0], marks[i][1], false);
        }
        int[] least = {0, 1, 2, 3, 1, 5, 3, 7};
        int[] doubted = {1, 0, 0, -1, 0, 0, -1, -1};
        for (int k = 0; k < marks.length; k++) {
            Check.due("least one of " + k, least[k], desk.showing(k, 8, 7));
            Check.due("doubted with " + k, doubted[k], desk.showing(k, 8, 8));
        }
    }

    private static void allMarks() {
        int[][] marks = {{31, 31}, {1, 31}, {2, 1}, {31, 30}, {30, 31}, {1, 1}, {31, 1}, {2, 31}, {30, 30}, {3, 1}};
        GuideDesk desk = new GuideDesk();
        desk.channels(2);
        desk.source(5);
        for (int i = 0; i < marks.length; i++) {
            desk.notice(0, 0, 2 * i, 2 * i + 1, marks[i][0], marks[i][1], false);
            desk.notice(0, 1, 100 + 2 * i, 101 + 2 * i, marks[i][0], marks[i][1], false);
        }
        for (int k = 0; k < marks.length; k++) {
            Check.due("first of its marks", k, desk.showing(k, 20, 7));
            Check.due("one with the first", k, desk.showing(10 + k, 20, 7));
        }
        // Of 31 times 31 marks no two are one.
        GuideDesk all = new GuideDesk();
        all.source(5);
        for (int i = 0; i < 288; i++) {
            all.notice(0, 0, i, i + 1, 1 + i % 31, 1 + i / 31 * 3, false);
        }
        for (int k = 0; k < 200; k++) {
            Check.due("one with none", 88 + k, all.showing(88 + k, 288, 7));
        }
    }

    private static void mostShowings() {
        GuideDesk desk = new GuideDesk();
        desk.channels(6);
        desk.source(5);
        // Fifty notices a channel, each cutting a hole into the channel's first one.
        for (int channel = 0; channel < 6; channel++) {
            desk.notice(0, channel, 0, 288, 1, 1, true);
            for (int i = 1; i < 50; i++) {
                desk.notice(0, channel, 5 * i, 5 * i + 1, 2, i % 32, false);
            }
        }
        Check.due("showings", 6 * 99, desk.showings(300));
        Check.due("the last", 246, desk.showing(593, 300, 2));
        Check.due("the last one's channel", 5, desk.showing(593, 300, 1));
        Check.due("none behind", -1, desk.showing(594, 300, 0));
    }

    /** The first channel's row is as drawn: a digit is a fact, a dot a gap, a blank is for the eye. */
    private static void row(GuideDesk desk, int n, String drawn) {
        String slots = drawn.replace(" ", "");
        for (int t = 0; t < slots.length(); t++) {
            char c = slots.charAt(t);
            Check.due("slot " + t + " of " + drawn, c == '.' ? -1 : c - '0', desk.sent(0, t, n));
        }
    }
}
