import java.util.Arrays;

/** Promises 12 sent, 13 says, 14 showing, 15 showings: what quarrelling sources and overs make of a day. */
public final class DayTest {
    public static void main(String[] args) {
        says();
        saysOfNoSuchOnes();
        quarrel();
        trustsOfAllKinds();
        knownBy();
        sentOfNoSuchOnes();
        gaps();
        overPushes();
        shortestAndLongestOver();
        overLeavesGapsOut();
        overWithGapsEnough();
        overAtTheDaysEnd();
        overWithTheLastSlotFree();
        overAtTheDaysBegin();
        overDoesNothing();
        oversInOrder();
        showings();
        showingsAtTheDaysEdges();
        showingOfNoSuchOnes();
        showingsOfNoSuchOnes();
        runsOfOneNotice();
        oneAndDoubted();
        doubtedAlone();
        allMarks();
        mostShowings();
        Check.finish();
    }

    private static void says() {
        Check.promise(13, "What a SOURCE says of SLOT t of a CHANNEL, as KNOWN by n: its FACT; NONE: nothing");
        GuideDesk desk = new GuideDesk();
        desk.channels(2);
        desk.source(1);
        desk.source(9);
        desk.notice(0, 0, 10, 20, 1, 1, false);
        desk.notice(0, 0, 15, 25, 2, 1, false);
        desk.notice(0, 1, 10, 12, 3, 1, false);
        desk.notice(0, 0, 12, 14, 0, 0, false);
        desk.notice(1, 0, 10, 20, 4, 1, true);
        desk.over(0, 20, 5);
        Check.due("ahead", -1, desk.says(0, 0, 9, 6));
        Check.due("first", 0, desk.says(0, 0, 10, 6));
        Check.due("that nothing is sent", 3, desk.says(0, 0, 12, 6));
        Check.due("up to", 0, desk.says(0, 0, 14, 6));
        Check.due("the latest", 1, desk.says(0, 0, 15, 6));
        Check.due("overs say nothing", 1, desk.says(0, 0, 24, 6));
        Check.due("at slot 0", -1, desk.says(0, 1, 0, 6));
        Check.due("behind", -1, desk.says(0, 0, 25, 6));
        Check.due("the other source", 4, desk.says(1, 0, 12, 6));
        Check.due("no over", -1, desk.says(1, 0, 20, 6));
        Check.due("the other channel", 2, desk.says(0, 1, 10, 6));
        Check.due("known by 3", 0, desk.says(0, 0, 12, 3));
        Check.due("known by 1", 0, desk.says(0, 0, 15, 1));
        Check.due("known by 0", -1, desk.says(0, 0, 15, 0));
        desk.notice(0, 1, 0, 288, 3, 1, false);
        Check.due("from slot 0", 6, desk.says(0, 1, 0, 7));
        Check.due("to slot 287", 6, desk.says(0, 1, 287, 7));
    }

    private static void saysOfNoSuchOnes() {
        Check.promise(13, "NONE: .. no such ones");
        GuideDesk desk = new GuideDesk();
        desk.channels(2);
        desk.source(5);
        desk.source(6);
        desk.notice(0, 0, 0, 288, 1, 1, false);
        desk.notice(1, 0, 0, 288, 1, 1, false);
        desk.notice(0, 1, 0, 288, 1, 1, false);
        Check.due("source 0", 0, desk.says(0, 0, 0, 3));
        Check.due("the last of all", 1, desk.says(1, 0, 287, 3));
        Check.due("the last channel", 2, desk.says(0, 1, 287, 3));
        Check.due("the last fact is not known", -1, desk.says(0, 1, 287, 2));
        int[][] wrong = {{-1, 0, 0, 3}, {2, 0, 0, 3}, {6, 0, 0, 3}, {Check.LEAST, 0, 0, 3}, {Check.GREATEST, 0, 0, 3},
            {0, -1, 0, 3}, {0, 2, 0, 3}, {0, 6, 0, 3}, {0, Check.LEAST, 0, 3}, {0, Check.GREATEST, 0, 3}, {0, 0, -1, 3},
            {0, 0, 288, 3}, {0, 0, Check.LEAST, 3}, {0, 0, Check.GREATEST, 3}, {0, 0, 0, -1}, {0, 0, 0, 4},
            {0, 0, 0, 301}, {0, 0, 0, Check.LEAST}, {0, 0, 0, Check.GREATEST}};
        for (int[] row : wrong) {
            Check.due("says " + Arrays.toString(row), -1, desk.says(row[0], row[1], row[2], row[3]));
        }
    }

    private static void quarrel() {
        Check.promise(12, "by the SOURCE with the greatest TRUST, of the same the least, that says something of it "
            + "(also that nothing is sent)");
        GuideDesk desk = new GuideDesk();
        desk.source(5);
        desk.source(5);
        desk.source(8);
        desk.notice(1, 0, 0, 30, 1, 1, false);
        desk.notice(0, 0, 10, 30, 2, 1, false);
        Check.due("alone", 0, desk.sent(0, 5, 2));
        Check.due("of the same trust the least", 1, desk.sent(0, 10, 2));
        desk.notice(1, 0, 10, 30, 3, 1, false);
        Check.due("a later word of less", 1, desk.sent(0, 10, 3));
        Check.due("its own later word", 2, desk.says(1, 0, 10, 3));
        desk.notice(2, 0, 20, 25, 0, 0, false);
        Check.due("the greatest trust: nothing is sent", -1, desk.sent(0, 20, 4));
        Check.due("beside it", 1, desk.sent(0, 25, 4));
        desk.notice(0, 0, 20, 30, 4, 1, false);
        Check.due("still nothing", -1, desk.sent(0, 20, 5));
        Check.due("the latest of the least", 4, desk.sent(0, 25, 5));
        desk.notice(2, 0, 22, 23, 5, 1, false);
        Check.due("its latest", 5, desk.sent(0, 22, 6));
        Check.due("its earlier", -1, desk.sent(0, 23, 6));
    }

    private static void trustsOfAllKinds() {
        Check.promise(12, "by the SOURCE with the greatest TRUST, of the same the least");
        // Each row: the trusts of six sources, and the source by which all is sent.
        int[][] rows = {{1, 2, 3, 4, 5, 9, 5}, {9, 5, 4, 3, 2, 1, 0}, {1, 1, 1, 1, 1, 1, 0}, {9, 9, 9, 9, 9, 9, 0},
            {8, 9, 8, 9, 8, 9, 1}, {1, 1, 2, 1, 1, 2, 2}, {7, 7, 8, 6, 9, 9, 4}};
        for (int[] row : rows) {
            for (int order = 0; order < 2; order++) {
                GuideDesk desk = new GuideDesk();
                for (int i = 0; i < 6; i++) {
                    desk.source(row[i]);
                }
                for (int i = 0; i < 6; i++) {
                    desk.notice(order == 0 ? i : 5 - i, 0, 3, 4, 1, 1, false);
                }
                Check.due("sent of " + Arrays.toString(row), order == 0 ? row[6] : 5 - row[6], desk.sent(0, 3, 6));
            }
        }
    }

    private static void knownBy() {
        Check.promise(12, "as KNOWN by n the first n of them");
        GuideDesk desk = new GuideDesk();
        desk.source(5);
        for (int i = 0; i < 5; i++) {
            desk.notice(0, 0, i, 10, 1 + i, 1, false);
        }
        for (int n = 5; n >= 0; n--) {
            Check.due("sent, known by " + n, n - 1, desk.sent(0, 9, n));
            Check.due("showings, known by " + n, n, desk.showings(n));
        }
        Check.due("the first notice again", 0, desk.sent(0, 0, 5));
    }

    private static void sentOfNoSuchOnes() {
        Check.promise(12, "NONE: .. no such ones");
        GuideDesk desk = new GuideDesk();
        desk.channels(2);
        desk.source(5);
        desk.notice(0, 0, 0, 288, 1, 1, false);
        desk.notice(0, 1, 0, 288, 1, 1, false);
        Check.due("slot 0", 0, desk.sent(0, 0, 2));
        Check.due("slot 287", 0, desk.sent(0, 287, 2));
        Check.due("the last channel", 1, desk.sent(1, 287, 2));
        Check.due("known by 1", -1, desk.sent(1, 287, 1));
        Check.due("known by 0", -1, desk.sent(0, 0, 0));
        int[][] wrong = {{-1, 0, 2}, {2, 0, 2}, {6, 0, 2}, {Check.LEAST, 0, 2}, {Check.GREATEST, 0, 2}, {0, -1, 2},
            {0, 288, 2}, {0, Check.LEAST, 2}, {0, Check.GREATEST, 2}, {0, 0, -1}, {0, 0, 3}, {0, 0, 301},
            {0, 0, Check.LEAST}, {0, 0, Check.GREATEST}};
        for (int[] row : wrong) {
            Check.due("sent " + Arrays.toString(row), -1, desk.sent(row[0], row[1], row[2]));
        }
    }

    private static void gaps() {
        Check.promise(12, "NONE: a GAP .. (nothing said, or that nothing is sent)");
        GuideDesk desk = new GuideDesk();
        desk.source(5);
        desk.source(4);
        desk.notice(0, 0, 2, 8, 1, 1, false);
        desk.notice(0, 0, 4, 5, 0, 0, false);
        desk.notice(1, 0, 4, 9, 2, 1, false);
        row(desk, 3, "..00.0002...");
        desk.notice(0, 0, 0, 288, 0, 0, false);
        Check.due("a day of nothing", 0, desk.showings(4));
        row(desk, 4, "............");
        Check.due("its last slot", -1, desk.sent(0, 287, 4));
        Check.due("it is said all the same", 3, desk.says(0, 0, 287, 4));
    }

    private static void overPushes() {
        Check.promise(12, "SLOTS t .. t + d - 1 have it, too; the SLOTS that stood from t on are pushed d later, in order");
        GuideDesk desk = new GuideDesk();
        desk.channels(2);
        desk.source(5);
        desk.notice(0, 0, 0, 10, 1, 1, true);
        desk.notice(0, 0, 10, 20, 2, 1, false);
        desk.notice(0, 0, 20, 25, 3, 1, false);
        desk.notice(0, 1, 0, 20, 4, 1, true);
        desk.over(0, 10, 3);
        row(desk, 5, "0000000000000 1111111111 22222 ...");
        Check.due("the other channel stays", 3, desk.sent(1, 19, 5));
        Check.due("and has no more", -1, desk.sent(1, 20, 5));
        // In the midst of what is live it is longer, too.
        desk.over(0, 5, 1);
        row(desk, 6, "00000000000000 1111111111 22222 ...");
    }

    private static void shortestAndLongestOver() {
        Check.promise(12, "what is sent at SLOT t - 1 goes on for d SLOTS more (1 .. 48)");
        int[] lengths = {1, 2, 47, 48};
        for (int d : lengths) {
            GuideDesk desk = new GuideDesk();
            desk.source(5);
            desk.notice(0, 0, 0, 100, 1, 1, true);
            desk.notice(0, 0, 100, 160, 2, 1, false);
            desk.over(0, 100, d);
            Check.due("goes on for " + d, 0, desk.sent(0, 99 + d, 3));
            Check.due("no longer", 1, desk.sent(0, 100 + d, 3));
            Check.due("pushed to its end", 1, desk.sent(0, 159 + d, 3));
            Check.due("no further", -1, desk.sent(0, 160 + d, 3));
            Check.due("two showings", 2, desk.showings(3));
        }
    }

    private static void overLeavesGapsOut() {
        Check.promise(12, "where a GAP stood among them it is left out, as long as something is pushed, "
            + "and what is behind is pushed one less");
        GuideDesk desk = new GuideDesk();
        desk.source(5);
        desk.notice(0, 0, 0, 3, 1, 1, true);
        desk.notice(0, 0, 4, 6, 2, 1, false);
        desk.notice(0, 0, 7, 9, 3, 1, false);
        desk.notice(0, 0, 10, 12, 4, 1, false);
        desk.notice(0, 0, 14, 15, 5, 1, false);
        desk.over(0, 3, 2);
        row(desk, 6, "00000 11 22 . 33 .. 4 ...");
        GuideDesk more = new GuideDesk();
        more.source(5);
        more.source(9);
        more.notice(0, 0, 0, 3, 1, 1, true);
        more.notice(0, 0, 3, 12, 2, 1, false);
        more.notice(1, 0, 5, 7, 0, 0, false);
        more.over(0, 3, 1);
        Check.due("pushed", 0, more.sent(0, 3, 4));
        Check.due("pushed by one", 1, more.sent(0, 5, 4));
        Check.due("one gap is left out, one stays", -1, more.sent(0, 6, 4));
        Check.due("behind it all stays", 1, more.sent(0, 7, 4));
        Check.due("to its end", 1, more.sent(0, 11, 4));
        Check.due("not longer", -1, more.sent(0, 12, 4));
        more.over(0, 4, 1);
        Check.due("two runs come together", 3, more.showings(4));
        Check.due("as one showing", 2, more.showings(5));
        Check.due("of one notice", 12, more.showing(1, 5, 3));
    }

    private static void overWithGapsEnough() {
        Check.promise(12, "where a GAP stood among them it is left out, as long as something is pushed");
        // As many gaps as slots, one less, one more; all at once, or one by one.
        String[][] rows = {{"00..11", "0000 11", "2"}, {"00.11", "0000 11", "2"}, {"00...11", "0000. 11", "2"},
            {"00.1.1", "0000 11", "2"}, {"001..1", "0000 1 1", "2"}, {"001...1", "0000 1.1", "2"}, {"0011", "0000 11", "2"},
            {"00.1.1", "000 1.1", "1"}, {"00", "0000000", "5"}, {"00....1", "0000000 1", "5"}, {"00.....1", "0000000 1", "5"},
            {"00......1", "0000000. 1", "5"}, {"00.1.1.1.1.1.1", "00000 111.1.1.1", "3"}};
        for (String[] drawn : rows) {
            GuideDesk desk = new GuideDesk();
            desk.source(5);
            desk.notice(0, 0, 0, 2, 1, 1, true);
            desk.notice(0, 0, 2, drawn[0].length(), 2, 1, false);
            int n = 2;
            for (int t = 2; t < drawn[0].length(); t++) {
                if (drawn[0].charAt(t) == '.') {
                    desk.notice(0, 0, t, t + 1, 0, 0, false);
                    n++;
                }
            }
            if (drawn[0].length() == 2) {
                n = 1;
            }
            row(desk, n, drawn[0] + "...");
            desk.over(0, 2, Integer.parseInt(drawn[2]));
            row(desk, n + 1, drawn[1] + "...");
        }
    }

    private static void overAtTheDaysEnd() {
        Check.promise(12, "What comes beyond SLOT 287 is left out");
        GuideDesk desk = new GuideDesk();
        desk.source(5);
        desk.notice(0, 0, 0, 280, 1, 1, true);
        desk.notice(0, 0, 280, 286, 2, 1, false);
        desk.notice(0, 0, 286, 288, 3, 1, false);
        desk.over(0, 280, 4);
        Check.due("goes on", 0, desk.sent(0, 283, 4));
        Check.due("pushed", 1, desk.sent(0, 284, 4));
        Check.due("what is beyond is left out", 1, desk.sent(0, 287, 4));
        Check.due("two are left", 2, desk.showings(4));
        desk.over(0, 280, 48);
        Check.due("all is left out", 0, desk.sent(0, 287, 5));
        Check.due("one is left", 1, desk.showings(5));
        GuideDesk last = new GuideDesk();
        last.source(5);
        last.notice(0, 0, 0, 287, 1, 1, true);
        last.over(0, 287, 1);
        Check.due("the last slot", 0, last.sent(0, 287, 2));
    }

    private static void overWithTheLastSlotFree() {
        Check.promise(12, "What comes beyond SLOT 287 is left out");
        // Two slots more: with two free slots behind it what is last stays, with less it goes.
        for (int end = 285; end <= 288; end++) {
            GuideDesk desk = new GuideDesk();
            desk.source(5);
            desk.notice(0, 0, 270, 275, 1, 1, true);
            desk.notice(0, 0, 275, end - 1, 2, 1, false);
            desk.notice(0, 0, end - 1, end, 3, 1, false);
            desk.over(0, 275, 2);
            boolean stays = end <= 286;
            Check.due("how many where the last one ended at " + end, stays ? 3 : 2, desk.showings(4));
            Check.due("the last one that ended at " + end, stays ? 2 : 1, desk.sent(0, Math.min(end + 1, 287), 4));
        }
        for (int t = 240; t <= 287; t++) {
            GuideDesk desk = new GuideDesk();
            desk.source(5);
            desk.notice(0, 0, t - 1, t, 1, 1, true);
            desk.notice(0, 0, t, 288, 2, 1, false);
            desk.over(0, t, 48);
            Check.due("nothing but what goes on from " + t, 0, desk.sent(0, 287, 3));
            Check.due("one showing from " + t, 1, desk.showings(3));
            Check.due("to the day's end", 288, desk.showing(0, 3, 3));
        }
    }

    private static void overAtTheDaysBegin() {
        Check.promise(12, "what is sent at SLOT t - 1 goes on");
        GuideDesk desk = new GuideDesk();
        desk.source(5);
        desk.notice(0, 0, 0, 1, 1, 1, true);
        desk.notice(0, 0, 1, 2, 2, 1, true);
        desk.notice(0, 0, 2, 4, 3, 1, false);
        desk.over(0, 1, 2);
        row(desk, 4, "000 1 22 ..");
        desk.over(0, 4, 1);
        row(desk, 5, "000 11 22 ..");
        desk.notice(0, 0, 0, 1, 0, 0, true);
        Check.due("nothing is sent in slot 0", -1, desk.sent(0, 0, 6));
        row(desk, 6, ". 1 22 ..");
    }

    private static void overDoesNothing() {
        Check.promise(12, "if SLOT t - 1 has a NOTICE that is LIVE (else it does nothing)");
        GuideDesk desk = new GuideDesk();
        desk.source(5);
        desk.notice(0, 0, 0, 5, 1, 1, false);
        desk.notice(0, 0, 7, 9, 0, 0, true);
        desk.over(0, 5, 2);
        desk.over(0, 9, 2);
        desk.over(0, 100, 2);
        Check.due("not live", -1, desk.sent(0, 5, 5));
        Check.due("nothing is sent", -1, desk.sent(0, 9, 5));
        Check.due("nothing is said", -1, desk.sent(0, 100, 5));
        Check.due("one showing", 1, desk.showings(5));
        // What is live ends ahead of slot t - 1, or begins at t.
        desk.notice(0, 0, 20, 25, 4, 1, true);
        desk.over(0, 26, 3);
        desk.over(0, 20, 3);
        Check.due("it has ended", -1, desk.sent(0, 25, 8));
        Check.due("a slot later, too", -1, desk.sent(0, 26, 8));
        Check.due("it has not begun", 5, desk.sent(0, 20, 8));
        Check.due("it is as long as before", 5, desk.sent(0, 24, 8));
    }

    private static void oversInOrder() {
        Check.promise(12, "Then the OVERS KNOWN, in order, each on the row that is there");
        GuideDesk desk = new GuideDesk();
        desk.source(5);
        // The over is told first: it does nothing until there is something live.
        desk.over(0, 10, 5);
        desk.notice(0, 0, 5, 10, 1, 1, true);
        Check.due("known by 1", -1, desk.sent(0, 10, 1));
        Check.due("all notices come first", 1, desk.sent(0, 14, 2));
        desk.notice(0, 0, 10, 12, 2, 1, true);
        Check.due("and push", 2, desk.sent(0, 15, 3));
        // The second over meets the row that the first one left.
        desk.over(0, 17, 2);
        Check.due("goes on from there", 2, desk.sent(0, 18, 4));
        Check.due("no further", -1, desk.sent(0, 19, 4));
        desk.notice(0, 0, 5, 10, 3, 1, false);
        Check.due("no longer live", 2, desk.sent(0, 10, 5));
        // At slot 6 there is fact 1, or, where the other over came first, fact 0.
        int[][] orders = {{7, 5}, {5, 7}};
        String[] drawn = {"0000000 1111111 ..", "000000000 11111 .."};
        for (int i = 0; i < orders.length; i++) {
            GuideDesk two = new GuideDesk();
            two.source(5);
            two.notice(0, 0, 0, 5, 1, 1, true);
            two.notice(0, 0, 5, 10, 2, 1, true);
            two.over(0, orders[i][0], 2);
            two.over(0, orders[i][1], 2);
            row(two, 4, drawn[i]);
        }
    }

    private static void showings() {
        Check.promise(14, "numbered from 0 on by their first SLOT, then CHANNEL");
        GuideDesk desk = new GuideDesk();
        desk.channels(3);
        desk.source(5);
        desk.notice(0, 2, 0, 5, 7, 3, false);
        desk.notice(0, 1, 3, 9, 8, 4, true);
        desk.notice(0, 0, 3, 4, 9, 0, false);
        desk.notice(0, 1, 0, 2, 10, 31, false);
        Check.due("showings", 4, desk.showings(4));
        int[][] due = {{3, 1, 0, 2, 10, 31, 0, 0, -1}, {0, 2, 0, 5, 7, 3, 0, 1, -1},
            {2, 0, 3, 4, 9, 0, 0, 2, -1}, {1, 1, 3, 9, 8, 4, 0, 3, -1}};
        for (int k = 0; k < due.length; k++) {
            for (int what = 0; what < 9; what++) {
                Check.due("showing " + k + " what " + what, due[k][what], desk.showing(k, 4, what));
            }
        }
        Check.due("known by 1", 2, desk.showing(0, 1, 1));
        Check.due("at the day's end", 5, desk.notice(0, 0, 280, 288, 1, 1, false) + 1);
        Check.due("until 288", 288, desk.showing(4, 5, 3));
    }

    private static void showingsAtTheDaysEdges() {
        Check.promise(14, "2: first SLOT, 3: the SLOT behind the last one");
        GuideDesk desk = new GuideDesk();
        desk.channels(6);
        desk.source(5);
        desk.notice(0, 5, 0, 1, 1, 1, false);
        desk.notice(0, 5, 287, 288, 2, 31, true);
        desk.notice(0, 0, 0, 288, 31, 1, false);
        int[][] due = {{2, 0, 0, 288, 31, 1}, {0, 5, 0, 1, 1, 1}, {1, 5, 287, 288, 2, 31}};
        Check.due("showings", due.length, desk.showings(3));
        for (int k = 0; k < due.length; k++) {
            for (int what = 0; what < due[k].length; what++) {
                Check.due("showing " + k + " what " + what, due[k][what], desk.showing(k, 3, what));
            }
        }
    }

    private static void showingOfNoSuchOnes() {
        Check.promise(14, "NONE for others");
        GuideDesk desk = new GuideDesk();
        desk.source(5);
        desk.notice(0, 0, 0, 288, 1, 1, false);
        desk.notice(0, 0, 5, 288, 2, 0, false);
        Check.due("the last", 1, desk.showing(1, 2, 0));
        Check.due("what 8", -1, desk.showing(1, 2, 8));
        int[][] wrong = {{-1, 2, 0}, {2, 2, 0}, {1, 1, 0}, {600, 2, 0}, {Check.LEAST, 2, 0}, {Check.GREATEST, 2, 0},
            {0, 3, 0}, {0, -1, 0}, {0, 0, 0}, {0, 301, 0}, {0, Check.LEAST, 0}, {0, Check.GREATEST, 0}, {0, 2, -1},
            {0, 2, 9}, {0, 2, 10}, {0, 2, Check.LEAST}, {0, 2, Check.GREATEST}};
        for (int[] row : wrong) {
            Check.due("showing " + Arrays.toString(row), -1, desk.showing(row[0], row[1], row[2]));
        }
    }

    private static void showingsOfNoSuchOnes() {
        Check.promise(15, "How many SHOWINGS there are, as KNOWN by n; NONE: no such n");
        GuideDesk desk = new GuideDesk();
        int[] wrong = {-1, 1, 300, Check.LEAST, Check.GREATEST};
        for (int n : wrong) {
            Check.due("without facts, showings " + n, -1, desk.showings(n));
        }
        Check.due("without facts", 0, desk.showings(0));
        desk.source(5);
        desk.notice(0, 0, 0, 5, 1, 1, false);
        Check.due("known by none", 0, desk.showings(0));
        Check.due("known by all", 1, desk.showings(1));
        Check.due("known by one more", -1, desk.showings(2));
        Check.due("known by -1", -1, desk.showings(-1));
        desk.notice(0, 0, 5, 6, 1, 1, false);
        Check.due("that one more", 2, desk.showings(2));
    }

    private static void runsOfOneNotice() {
        Check.promise(14, "runs of SLOTS of a CHANNEL with one NOTICE, as long as can be");
        GuideDesk desk = new GuideDesk();
        desk.source(5);
        desk.notice(0, 0, 0, 5, 1, 1, false);
        desk.notice(0, 0, 5, 10, 1, 1, false);
        Check.due("two notices are two", 2, desk.showings(2));
        desk.notice(0, 0, 2, 3, 2, 2, false);
        Check.due("one notice in two runs", 4, desk.showings(3));
        Check.due("the same fact", 0, desk.showing(2, 3, 0));
        Check.due("is one with", 0, desk.showing(2, 3, 7));
    }

    private static void oneAndDoubted() {
        Check.promise(14, "7: the least SHOWING that is ONE with it (itself, too), "
            + "8: the first other one that is DOUBTED with it");
        GuideDesk desk = new GuideDesk();
        desk.source(5);
        int[][] marks = {{1, 0}, {1, 2}, {1, 0}, {2, 2}, {1, 2}, {1, 3}, {2, 2}, {3, 0}};
        for (int i = 0; i < marks.length; i++) {
            desk.notice(0, 0, i, i + 1, marks[i][0], marks[i][1], false);
        }
        int[] least = {0, 1, 2, 3, 1, 5, 3, 7};
        int[] doubted = {1, 0, 0, -1, 0, 0, -1, -1};
        for (int k = 0; k < marks.length; k++) {
            Check.due("least one of " + k, least[k], desk.showing(k, 8, 7));
            Check.due("doubted with " + k, doubted[k], desk.showing(k, 8, 8));
        }
    }

    private static void doubtedAlone() {
        Check.promise(14, "8: the first other one that is DOUBTED with it (NONE)");
        GuideDesk desk = new GuideDesk();
        desk.source(5);
        desk.notice(0, 0, 0, 1, 31, 0, false);
        Check.due("alone, itself is no other", -1, desk.showing(0, 1, 8));
        Check.due("alone, one with itself", 0, desk.showing(0, 1, 7));
        desk.notice(0, 0, 2, 3, 31, 31, false);
        desk.notice(0, 0, 4, 5, 31, 31, false);
        int[] doubted = {1, 0, 0};
        int[] least = {0, 1, 1};
        for (int k = 0; k < 3; k++) {
            Check.due("doubted with " + k, doubted[k], desk.showing(k, 3, 8));
            Check.due("one with " + k, least[k], desk.showing(k, 3, 7));
        }
        Check.due("as known by 1", -1, desk.showing(0, 1, 8));
        Check.due("as known by 2", 1, desk.showing(0, 2, 8));
        // Two runs of a notice without an episode are doubted, and not one.
        GuideDesk runs = new GuideDesk();
        runs.source(5);
        runs.notice(0, 0, 0, 9, 1, 0, false);
        runs.notice(0, 0, 4, 5, 2, 1, false);
        Check.due("the other run", 2, runs.showing(0, 2, 8));
        Check.due("and back", 0, runs.showing(2, 2, 8));
        Check.due("they are not one", 2, runs.showing(2, 2, 7));
    }

    private static void allMarks() {
        Check.promise(14, "Two of them are ONE if their TITLES, and their EPISODES, not 0, are alike");
        int[][] marks = {{31, 31}, {1, 31}, {2, 1}, {31, 30}, {30, 31}, {1, 1}, {31, 1}, {2, 31}, {30, 30}, {3, 1}};
        GuideDesk desk = new GuideDesk();
        desk.channels(2);
        desk.source(5);
        for (int i = 0; i < marks.length; i++) {
            desk.notice(0, 0, 2 * i, 2 * i + 1, marks[i][0], marks[i][1], false);
            desk.notice(0, 1, 100 + 2 * i, 101 + 2 * i, marks[i][0], marks[i][1], false);
        }
        for (int k = 0; k < marks.length; k++) {
            Check.due("first of its marks", k, desk.showing(k, 20, 7));
            Check.due("one with the first", k, desk.showing(10 + k, 20, 7));
        }
        // Of 31 times 31 marks no two are one.
        GuideDesk all = new GuideDesk();
        all.source(5);
        for (int i = 0; i < 288; i++) {
            all.notice(0, 0, i, i + 1, 1 + i % 31, 1 + i / 31 * 3, false);
        }
        for (int k = 0; k < 200; k++) {
            Check.due("one with none", 88 + k, all.showing(88 + k, 288, 7));
        }
    }

    private static void mostShowings() {
        Check.promise(15, "How many SHOWINGS there are");
        GuideDesk desk = new GuideDesk();
        desk.channels(6);
        desk.source(5);
        // Fifty notices a channel, each cutting a hole into the channel's first one.
        for (int channel = 0; channel < 6; channel++) {
            desk.notice(0, channel, 0, 288, 1, 1, true);
            for (int i = 1; i < 50; i++) {
                desk.notice(0, channel, 5 * i, 5 * i + 1, 2, i % 32, false);
            }
        }
        Check.due("showings", 6 * 99, desk.showings(300));
        Check.due("the last", 246, desk.showing(593, 300, 2));
        Check.due("the last one's channel", 5, desk.showing(593, 300, 1));
        Check.due("none behind", -1, desk.showing(594, 300, 0));
    }

    /** The first channel's row is as drawn: a digit is a fact, a dot a gap, a blank is for the eye. */
    private static void row(GuideDesk desk, int n, String drawn) {
        String slots = drawn.replace(" ", "");
        for (int t = 0; t < slots.length(); t++) {
            char c = slots.charAt(t);
            Check.due("slot " + t + " of " + drawn, c == '.' ? -1 : c - '0', desk.sent(0, t, n));
        }
    }
}
