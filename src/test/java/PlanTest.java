/** Promises 17 plan, 18 candidate, and of 19 count what is of a plan. */
public final class PlanTest {
    private static final String BY_TITLE = "wish 1 if title == 1; wish 2 if title == 2; wish 3 if title == 3;"
        + " wish 4 if title == 4; wish 5 if title == 5; wish 6 if title == 6; wish 7 if title == 7;";

    public static void main(String[] args) {
        nothing();
        noSuchN();
        full();
        fullRefused();
        weightAboveNothing();
        greatestWeight();
        tuners();
        tunersSlotBySlot();
        leadAndTail();
        spansOfTheDay();
        room();
        roomToTheSlot();
        ones();
        leastSpans();
        firstByWhoIsIn();
        rivals();
        began();
        beganToTheSlot();
        underWayToTheSlot();
        underWayComesFirst();
        underWayByItsMarks();
        underWayByItsOwnSpan();
        keepsItsOwnTime();
        plansAnew();
        everyWhy();
        withoutAPlan();
        noSuchCandidate();
        Check.finish();
    }

    /** Each row: channel, from, until, title, episode. */
    private static GuideDesk desk(int[][] notices) {
        GuideDesk desk = new GuideDesk();
        desk.channels(6);
        desk.source(5);
        for (int[] row : notices) {
            desk.notice(0, row[0], row[1], row[2], row[3], row[4], false);
        }
        Check.read(desk, BY_TITLE);
        return desk;
    }

    private static void candidates(String name, GuideDesk desk, int what, int... due) {
        Check.due(name + ": candidates", due.length, desk.count(5));
        for (int i = 0; i < due.length; i++) {
            Check.due(name + ": candidate " + i + " what " + what, due[i], desk.candidate(i, what));
        }
    }

    private static void nothing() {
        Check.promise(17, "A PLAN, as KNOWN by n: its WEIGHT; it is the one at hand");
        GuideDesk desk = desk(new int[][] {{0, 0, 5, 9, 1}});
        Check.due("no candidates", 0, desk.plan(1));
        Check.due("a plan is at hand", 0, desk.count(5));
        Check.due("by its n", 1, desk.count(8));
        Check.due("no candidate", -1, desk.candidate(0, 0));
    }

    private static void noSuchN() {
        Check.promise(17, "NONE, and nothing happens: no such n");
        GuideDesk desk = desk(new int[][] {{0, 0, 5, 1, 1}, {0, 5, 9, 2, 1}});
        Check.due("n -1", -1, desk.plan(-1));
        Check.due("n 3", -1, desk.plan(3));
        Check.due("still no plan", -1, desk.count(8));
        Check.due("n 1", 1, desk.plan(1));
        Check.due("n 3 again", -1, desk.plan(3));
        Check.due("the plan stays", 1, desk.count(8));
        Check.due("n 2", 3, desk.plan(2));
        Check.due("another plan", 2, desk.count(8));
        Check.due("n 0", 0, desk.plan(0));
        Check.due("an empty plan", 0, desk.count(5));
        int[] wrong = {-1, 5, 300, 301, Check.LEAST, Check.GREATEST};
        for (int n : wrong) {
            Refusal.due("plan " + n, -1, d -> d.plan(n));
        }
    }

    private static void full() {
        Check.promise(17, "more than 14 are FULL");
        GuideDesk desk = desk(new int[0][]);
        for (int i = 0; i < 15; i++) {
            desk.notice(0, i % 6, 2 * i, 2 * i + 2, 1, i + 1, false);
        }
        Check.due("fourteen", 14, desk.plan(14));
        Check.due("all are in", 14, desk.count(6));
        Check.due("fifteen", -2, desk.plan(15));
        Check.due("the plan stays", 14, desk.count(8));
        Check.due("its candidates stay", 13, desk.candidate(13, 0));
        Check.due("it has fourteen", 14, desk.count(5));
        desk.notice(0, 0, 100, 110, 9, 9, false);
        Check.due("no weight, no candidate", -2, desk.plan(16));
        Check.read(desk, "wish 1 if title == 9;");
        Check.due("other wishes", 1, desk.plan(16));
        Check.due("its showing", 15, desk.candidate(0, 0));
    }

    /** A plan of fourteen at hand, a fifteenth told since then, and a text with few candidates on the tape. */
    private static GuideDesk fifteen() {
        GuideDesk desk = desk(new int[0][]);
        for (int i = 0; i < 15; i++) {
            desk.notice(0, i % 6, 2 * i, 2 * i + 2, 1, i + 1, false);
        }
        desk.plan(14);
        Check.type(desk, Check.bytes("wish 1 if from < 4;"));
        return desk;
    }

    private static void fullRefused() {
        Check.promise(17, "-2: FULL");
        Refusal.due("fifteen", -2, PlanTest::fifteen, desk -> desk.plan(15));
        GuideDesk first = new GuideDesk();
        first.source(1);
        for (int i = 0; i < 100; i++) {
            first.notice(0, 0, i, i + 1, 1, 0, false);
        }
        Check.read(first, "wish 1 if title == 1;");
        Check.due("a hundred", -2, first.plan(100));
        Check.due("there is no plan", -1, first.count(5));
        Check.due("nor a candidate", -1, first.candidate(0, 0));
        Check.due("fourteen of them", 14, first.plan(14));
        // What can't be in the plan is a candidate, too.
        first.clock(200);
        Check.due("fifteen that have begun", -2, first.plan(15));
        Check.due("fourteen that were under way", 14, first.plan(14));
        Check.read(first, "wish 1 if title == 1; never if from == 7;");
        Check.due("fifteen but for one that has no weight", 13, first.plan(15));
        Check.due("fourteen candidates", 14, first.count(5));
        Check.due("the last began, and was not under way", 1, first.candidate(13, 2));
        Check.due("sixteen but for one", -2, first.plan(16));
    }

    private static void weightAboveNothing() {
        Check.promise(17, "CANDIDATES are the SHOWINGS with a WEIGHT above 0");
        GuideDesk desk = desk(new int[][] {{0, 0, 5, 1, 1}, {0, 10, 15, 8, 1}, {0, 20, 25, 2, 1}, {0, 30, 35, 31, 0}});
        Check.due("without the two that no wish holds for", 3, desk.plan(4));
        candidates("the others", desk, 0, 0, 2);
        Check.read(desk, "wish 1000 if title == 31; wish 1 if title == 8; wish 5 if from == 0; never if from == 0;");
        Check.due("the least weight and the greatest", 1001, desk.plan(4));
        candidates("without a never", desk, 0, 1, 3);
        Check.read(desk, "never if title == 31;");
        Check.due("none", 0, desk.plan(4));
        Check.due("no candidates", 0, desk.count(5));
        Check.due("none is in", 0, desk.count(6));
        Check.due("no spans", 0, desk.count(7));
    }

    private static void greatestWeight() {
        Check.promise(17, "of these the greatest WEIGHT together");
        GuideDesk desk = desk(new int[][] {{0, 0, 10, 3, 1}, {1, 5, 20, 5, 1}, {2, 15, 30, 3, 2}, {3, 40, 41, 9, 1},
            {4, 50, 51, 1, 1}});
        Check.due("two of three", 7, desk.plan(5));
        candidates("two of three", desk, 0, 0, 1, 2, 4);
        candidates("two of three", desk, 1, 1, 0, 1, 1);
        candidates("two of three", desk, 2, 0, 3, 0, 0);
        candidates("two of three", desk, 3, -1, 0, -1, -1);
        candidates("two of three", desk, 4, 0, 0, 0, 0);
        Check.due("members", 3, desk.count(6));
        Check.due("spans", 26, desk.count(7));
        // Of two that are under way one must go: the heavier stays, though it is the longer, and one has begun beside them.
        GuideDesk kept = desk(new int[][] {{0, 10, 20, 4, 1}, {1, 10, 60, 5, 1}, {2, 12, 15, 1, 1}, {3, 70, 72, 1, 2}});
        kept.recorder(2, 0, 0, 2000);
        Check.due("both", 9, kept.plan(2));
        kept.clock(13);
        kept.recorder(1, 0, 0, 2000);
        Check.due("the heavier", 6, kept.plan(4));
        candidates("the heavier", kept, 1, 0, 1, 0, 1);
        candidates("the heavier", kept, 2, 3, 0, 1, 0);
        candidates("the heavier", kept, 4, 1, 1, 0, 0);
    }

    private static void tuners() {
        Check.promise(17, "in each SLOT at most TUNERS SPANS");
        int[][] notices = {{0, 0, 10, 1, 1}, {1, 5, 15, 2, 1}, {2, 9, 20, 3, 1}, {3, 10, 12, 4, 1}};
        int[] due = {5, 8, 10};
        for (int tuners = 1; tuners <= 3; tuners++) {
            GuideDesk desk = desk(notices);
            desk.recorder(tuners, 0, 0, 2000);
            Check.due(tuners + " tuners", due[tuners - 1], desk.plan(4));
        }
        // Two tuners: of three that pass through one slot two can be in; the fourth begins where one of them ends.
        GuideDesk desk = desk(new int[][] {{0, 0, 10, 4, 1}, {1, 0, 20, 5, 1}, {2, 9, 11, 3, 1}, {3, 10, 12, 2, 1}});
        desk.recorder(2, 0, 0, 2000);
        Check.due("two tuners", 11, desk.plan(4));
        candidates("two tuners", desk, 1, 1, 1, 0, 1);
        candidates("two tuners", desk, 3, -1, -1, 3, -1);
    }

    private static void tunersSlotBySlot() {
        Check.promise(17, "in each SLOT at most TUNERS SPANS");
        for (int tuners = 1; tuners <= 3; tuners++) {
            for (int from = 8; from <= 11; from++) {
                GuideDesk desk = desk(new int[0][]);
                for (int channel = 0; channel < tuners; channel++) {
                    desk.notice(0, channel, 0, 10, 5, 1 + channel, false);
                }
                desk.notice(0, tuners, from, 40, 5, 9, false);
                desk.recorder(tuners, 0, 0, 2000);
                boolean fits = from >= 10;
                String name = tuners + " tuners, from " + from;
                Check.due(name, 5 * (tuners + (fits ? 1 : 0)), desk.plan(tuners + 1));
                Check.due(name + ", why", fits ? 0 : 3, desk.candidate(tuners, 2));
                Check.due(name + ", by whom", fits ? -1 : 0, desk.candidate(tuners, 3));
            }
        }
        // The first slot of one and the last slot of the other are the same.
        GuideDesk day = desk(new int[][] {{0, 0, 1, 5, 1}, {1, 0, 288, 4, 1}, {2, 287, 288, 5, 2}});
        Check.due("the day's edges", 10, day.plan(3));
        candidates("the day's edges", day, 2, 0, 3, 0);
        candidates("the day's edges", day, 3, -1, 0, -1);
    }

    private static void leadAndTail() {
        Check.promise(17, "A SHOWING's SPAN is its SLOTS, and LEAD ahead, and TAIL behind");
        GuideDesk desk = desk(new int[][] {{0, 10, 20, 1, 1}, {1, 25, 30, 2, 1}, {2, 284, 288, 3, 1}});
        desk.recorder(1, 5, 0, 2000);
        Check.due("lead reaches the end", 6, desk.plan(3));
        Check.due("with lead", 15 + 10 + 9, desk.count(7));
        desk.recorder(1, 6, 0, 2000);
        Check.due("lead meets", 5, desk.plan(3));
        desk.recorder(1, 3, 2, 2000);
        Check.due("lead and tail side by side", 6, desk.plan(3));
        desk.recorder(1, 3, 3, 2000);
        Check.due("lead and tail meet", 5, desk.plan(3));
        GuideDesk edge = desk(new int[][] {{0, 2, 5, 1, 1}, {0, 285, 287, 2, 1}});
        edge.recorder(1, 6, 6, 2000);
        Check.due("at the edges", 3, edge.plan(2));
        Check.due("of 0 .. 287", 11 + 9, edge.count(7));
    }

    private static void spansOfTheDay() {
        Check.promise(17, "A SHOWING's SPAN is its SLOTS, and LEAD ahead, and TAIL behind (of 0 .. 287)");
        int[] froms = {0, 1, 5, 6, 7, 280, 281, 282, 286, 287};
        int[] due = {7, 8, 12, 13, 13, 13, 13, 12, 8, 7};
        for (int i = 0; i < froms.length; i++) {
            GuideDesk desk = desk(new int[][] {{0, froms[i], froms[i] + 1, 5, 1}});
            desk.recorder(1, 6, 6, 2000);
            Check.due("from " + froms[i], 5, desk.plan(1));
            Check.due("its span from " + froms[i], due[i], desk.count(7));
        }
        GuideDesk whole = desk(new int[][] {{0, 0, 288, 5, 1}});
        whole.recorder(1, 6, 6, 288);
        Check.due("the whole day", 5, whole.plan(1));
        Check.due("its span", 288, whole.count(7));
    }

    private static void room() {
        Check.promise(17, "SPANS together at most ROOM");
        GuideDesk desk = desk(new int[][] {{0, 0, 10, 3, 1}, {0, 10, 16, 2, 1}, {0, 16, 20, 2, 2}});
        desk.recorder(1, 0, 0, 20);
        Check.due("all fit", 7, desk.plan(3));
        desk.recorder(1, 0, 0, 19);
        Check.due("one too many", 5, desk.plan(3));
        candidates("one too many", desk, 1, 1, 0, 1);
        candidates("one too many", desk, 2, 0, 4, 0);
        candidates("one too many", desk, 3, -1, -1, -1);
        desk.recorder(1, 0, 0, 10);
        Check.due("two small ones", 4, desk.plan(3));
        Check.due("they fill it", 10, desk.count(7));
        desk.recorder(3, 0, 0, 0);
        Check.due("no room", 0, desk.plan(3));
        candidates("no room", desk, 2, 4, 4, 4);
        Check.due("none is in", 0, desk.count(6));
    }

    private static void roomToTheSlot() {
        Check.promise(17, "SPANS together at most ROOM");
        for (int room = 13; room <= 16; room++) {
            GuideDesk desk = desk(new int[][] {{0, 50, 60, 5, 1}});
            desk.recorder(1, 2, 3, room);
            boolean fits = room >= 15;
            Check.due("room " + room, fits ? 5 : 0, desk.plan(1));
            Check.due("why with room " + room, fits ? 0 : 4, desk.candidate(0, 2));
            Check.due("by whom", -1, desk.candidate(0, 3));
        }
        int[] rooms = {0, 1, 287, 288, 575, 576, 863, 864, 2000};
        int[] due = {0, 0, 0, 1, 1, 2, 2, 3, 3};
        for (int i = 0; i < rooms.length; i++) {
            GuideDesk days = desk(new int[][] {{0, 0, 288, 1, 1}, {1, 0, 288, 1, 2}, {2, 0, 288, 1, 3}});
            days.recorder(3, 0, 0, rooms[i]);
            Check.due("whole days, room " + rooms[i], due[i], days.plan(3));
            Check.due("their spans", 288 * due[i], days.count(7));
        }
    }

    private static void ones() {
        Check.promise(18, "2 one in the PLAN is ONE with it, 3 with it a SLOT would have too many SPANS, 4 ROOM");
        GuideDesk desk = desk(new int[][] {{0, 0, 10, 5, 1}, {1, 20, 28, 5, 1}, {2, 30, 38, 5, 0}, {3, 40, 48, 5, 0}});
        Check.due("one of two, and the doubted", 15, desk.plan(4));
        candidates("ones", desk, 1, 0, 1, 1, 1);
        candidates("ones", desk, 2, 2, 0, 0, 0);
        candidates("ones", desk, 3, 1, -1, -1, -1);
        // It is one with a member, and crowded, and there is no room: the first of these is told.
        GuideDesk both = desk(new int[][] {{0, 0, 10, 5, 1}, {1, 5, 10, 5, 1}});
        both.recorder(1, 0, 0, 5);
        Check.due("one", 5, both.plan(2));
        candidates("one", both, 2, 2, 0);
        // Crowded comes ahead of room.
        GuideDesk crowded = desk(new int[][] {{0, 0, 10, 5, 1}, {1, 5, 10, 5, 2}});
        crowded.recorder(1, 0, 0, 5);
        crowded.plan(2);
        candidates("crowded", crowded, 2, 3, 0);
        candidates("crowded", crowded, 3, 1, -1);
    }

    private static void leastSpans() {
        Check.promise(17, "of these the least SPANS together");
        GuideDesk desk = desk(new int[][] {{0, 0, 10, 5, 1}, {1, 5, 14, 5, 2}, {2, 8, 18, 5, 3}});
        Check.due("the shortest", 5, desk.plan(3));
        candidates("the shortest", desk, 1, 0, 1, 0);
        Check.due("its span", 9, desk.count(7));
    }

    private static void firstByWhoIsIn() {
        Check.promise(17, "of these that which has the least CANDIDATE that is not in both, and so on");
        GuideDesk desk = desk(new int[][] {{0, 0, 10, 5, 1}, {1, 5, 15, 5, 2}, {2, 8, 18, 5, 3}});
        Check.due("as good", 5, desk.plan(3));
        candidates("the first", desk, 1, 1, 0, 0);
        // {0, 3} and {1, 2} are as good by weight and spans: the least that is not in both is 0.
        GuideDesk pairs = desk(new int[][] {{0, 0, 10, 2, 1}, {1, 0, 10, 3, 1}, {0, 20, 30, 3, 2}, {1, 20, 30, 4, 1}});
        pairs.recorder(1, 0, 0, 2000);
        Check.due("pairs", 7, pairs.plan(4));
        candidates("pairs", pairs, 1, 0, 1, 0, 1);
        GuideDesk room = desk(new int[][] {{0, 0, 5, 2, 1}, {0, 5, 10, 3, 1}, {0, 20, 25, 3, 2}, {0, 30, 35, 4, 1}});
        room.recorder(1, 0, 0, 10);
        Check.due("by room", 7, room.plan(4));
        candidates("by room", room, 1, 0, 1, 0, 1);
        room.recorder(1, 0, 0, 5);
        Check.due("by less room", 4, room.plan(4));
        // 0 and 1 together are as heavy as 2 alone, and as long.
        GuideDesk sum = desk(new int[][] {{0, 0, 5, 2, 1}, {0, 5, 10, 2, 2}, {1, 0, 10, 4, 1}});
        Check.due("sums", 4, sum.plan(3));
        candidates("sums", sum, 1, 1, 0, 1);
        candidates("sums", sum, 0, 0, 1, 2);
    }

    private static void rivals() {
        Check.promise(18, "of 3 the one with the least WEIGHT (the first such) whose SPAN has a SLOT with it in common");
        GuideDesk desk = desk(new int[][] {{0, 0, 10, 4, 1}, {1, 5, 40, 6, 1}, {2, 12, 20, 3, 1}, {3, 25, 35, 3, 2}});
        Check.due("three for one", 10, desk.plan(4));
        candidates("three for one", desk, 2, 0, 3, 0, 0);
        candidates("the lightest, the first such", desk, 3, -1, 2, -1, -1);
        // The lightest that has any slot in common, also where no slot has too many.
        GuideDesk two = desk(new int[][] {{0, 0, 10, 6, 1}, {1, 0, 10, 7, 1}, {2, 5, 30, 3, 1}, {3, 20, 30, 1, 1}});
        two.recorder(2, 0, 0, 40);
        Check.due("two tuners", 14, two.plan(4));
        candidates("two tuners", two, 2, 0, 0, 3, 0);
        candidates("two tuners", two, 3, -1, -1, 3, -1);
        // What only touches it has no slot in common with it.
        GuideDesk touch = desk(new int[][] {{0, 0, 5, 1, 1}, {0, 5, 10, 7, 1}, {1, 5, 10, 6, 1}, {0, 10, 15, 1, 2}});
        touch.plan(4);
        candidates("touching", touch, 2, 0, 0, 3, 0);
        candidates("touching", touch, 3, -1, -1, 1, -1);
    }

    private static void began() {
        Check.promise(18, "1 its SPAN began ahead of the CLOCK and it was not UNDER WAY");
        GuideDesk desk = desk(new int[][] {{0, 10, 20, 7, 1}, {1, 15, 20, 2, 1}, {2, 16, 20, 7, 1}});
        desk.clock(10);
        Check.due("at its first slot", 7, desk.plan(3));
        candidates("at its first slot", desk, 2, 2, 3, 0);
        GuideDesk late = desk(new int[][] {{0, 10, 20, 7, 1}, {1, 15, 20, 2, 1}, {2, 16, 20, 7, 1}});
        late.clock(16);
        Check.due("too late", 7, late.plan(3));
        candidates("too late", late, 2, 1, 1, 0);
        candidates("too late", late, 3, -1, -1, -1);
        GuideDesk lead = desk(new int[][] {{0, 10, 20, 7, 1}});
        lead.clock(9);
        lead.recorder(1, 2, 0, 2000);
        Check.due("its span began", 0, lead.plan(1));
        candidates("its span began", lead, 2, 1);
        lead.recorder(1, 1, 0, 2000);
        Check.due("its span begins now", 7, lead.plan(1));
    }

    private static void beganToTheSlot() {
        Check.promise(18, "1 its SPAN began ahead of the CLOCK and it was not UNDER WAY");
        for (int lead = 0; lead <= 6; lead++) {
            for (int from : new int[] {2, 6, 10, 287}) {
                int begin = Math.max(from - lead, 0);
                for (int now = Math.max(begin - 1, 0); now <= Math.min(begin + 1, 287); now++) {
                    GuideDesk desk = desk(new int[][] {{0, from, from + 1, 5, 1}});
                    desk.recorder(1, lead, 0, 2000);
                    desk.clock(now);
                    String name = "from " + from + ", lead " + lead + ", clock " + now;
                    Check.due(name, now <= begin ? 5 : 0, desk.plan(1));
                    candidates(name, desk, 2, now <= begin ? 0 : 1);
                    candidates(name, desk, 3, -1);
                    candidates(name, desk, 4, 0);
                }
            }
        }
    }

    private static void underWayToTheSlot() {
        Check.promise(17, "UNDER WAY .. are the SHOWINGS of the PLAN at hand whose SPAN begins ahead of it");
        for (int lead = 0; lead <= 6; lead++) {
            for (int from : new int[] {2, 6, 10, 286, 287}) {
                int begin = Math.max(from - lead, 0);
                for (int now = Math.max(begin - 1, 0); now <= Math.min(begin + 1, 287); now++) {
                    GuideDesk desk = desk(new int[][] {{0, from, from + 1, 5, 1}});
                    desk.recorder(1, lead, 0, 2000);
                    desk.plan(1);
                    desk.clock(now);
                    String name = "from " + from + ", lead " + lead + ", clock " + now;
                    Check.due(name, 5, desk.plan(1));
                    candidates(name, desk, 4, begin < now ? 1 : 0);
                }
            }
        }
    }

    private static void underWayComesFirst() {
        Check.promise(17, "Of all such sets: those with the most that are UNDER WAY");
        GuideDesk desk = desk(new int[][] {{0, 10, 30, 1, 1}, {1, 20, 30, 7, 1}, {2, 40, 50, 1, 1}});
        Check.due("the first plan", 1, desk.plan(1));
        desk.clock(11);
        Check.due("keeps what is under way", 1, desk.plan(2));
        candidates("keeps", desk, 1, 1, 0);
        candidates("keeps", desk, 4, 1, 0);
        candidates("keeps", desk, 2, 0, 3);
        Check.due("also where its repeat would leave room", 1, desk.plan(3));
        candidates("keeps it", desk, 1, 1, 0, 0);
        candidates("keeps it", desk, 2, 0, 3, 2);
        Check.read(desk, "wish 7 if title == 7;");
        Check.due("what is no candidate is not kept", 7, desk.plan(3));
        Check.read(desk, BY_TITLE);
        Check.due("it is no longer under way", 8, desk.plan(3));
        candidates("no longer", desk, 4, 0, 0, 0);
        candidates("no longer", desk, 2, 1, 0, 0);
        // A plan that is full or of no such n keeps the plan, and with it what is under way.
        GuideDesk kept = desk(new int[][] {{0, 10, 30, 1, 1}, {1, 12, 30, 7, 1}});
        kept.plan(1);
        kept.clock(11);
        kept.plan(99);
        Check.due("kept", 1, kept.plan(2));
        // Without a place for all of them, the most are kept, whatever they weigh.
        GuideDesk most = desk(new int[][] {{0, 0, 20, 7, 1}, {1, 0, 8, 1, 1}, {2, 5, 12, 1, 2}});
        most.recorder(3, 0, 0, 2000);
        Check.due("three at once", 9, most.plan(3));
        most.clock(6);
        most.recorder(2, 0, 0, 2000);
        Check.due("two of three", 8, most.plan(3));
        most.recorder(2, 0, 0, 15);
        Check.due("by room only one of those kept", 1, most.plan(3));
        candidates("by room", most, 4, 1, 0, 1);
        candidates("by room", most, 1, 0, 0, 1);
        candidates("by room", most, 2, 4, 1, 0);
    }

    private static void underWayByItsMarks() {
        Check.promise(17, "a CANDIDATE is UNDER WAY if one such has its CHANNEL, TITLE, EPISODE and first SLOT");
        GuideDesk desk = desk(new int[][] {{0, 10, 30, 5, 1}});
        desk.plan(1);
        desk.clock(12);
        desk.notice(0, 0, 25, 30, 9, 9, false);
        Check.due("it is shorter: the same", 5, desk.plan(2));
        desk.notice(0, 0, 10, 28, 5, 1, false);
        Check.due("another notice with its marks: the same", 5, desk.plan(3));
        candidates("the same", desk, 4, 1);
        desk.notice(0, 0, 10, 28, 5, 0, false);
        Check.due("another episode", 0, desk.plan(4));
        Check.due("it is gone with the plan", 0, desk.plan(3));
        GuideDesk moved = desk(new int[][] {{0, 10, 30, 5, 1}, {0, 10, 11, 9, 1}});
        moved.plan(1);
        moved.clock(12);
        Check.due("another first slot", 0, moved.plan(2));
        GuideDesk other = desk(new int[][] {{0, 10, 30, 5, 1}, {0, 10, 30, 0, 0}, {1, 10, 30, 5, 1}});
        other.plan(1);
        other.clock(12);
        Check.due("another channel", 0, other.plan(3));
        GuideDesk titled = desk(new int[][] {{0, 10, 30, 5, 1}, {0, 10, 30, 6, 1}});
        titled.plan(1);
        titled.clock(12);
        Check.due("another title", 0, titled.plan(2));
        // A candidate of the plan at hand that is not in it is not under way.
        GuideDesk out = desk(new int[][] {{0, 10, 30, 5, 1}, {1, 10, 30, 6, 1}});
        out.plan(2);
        out.clock(12);
        out.recorder(2, 0, 0, 2000);
        Check.due("not in the plan", 6, out.plan(2));
        candidates("not in the plan", out, 4, 0, 1);
        candidates("not in the plan", out, 2, 1, 0);
    }

    private static void underWayByItsOwnSpan() {
        Check.promise(17, "UNDER WAY .. are the SHOWINGS of the PLAN at hand whose SPAN begins ahead of it");
        // The span is the one of the plan at hand, not by what the recorder became.
        GuideDesk desk = desk(new int[][] {{0, 10, 20, 5, 1}});
        desk.recorder(1, 4, 0, 2000);
        desk.plan(1);
        desk.clock(6);
        desk.recorder(1, 0, 0, 2000);
        Check.due("not ahead of the clock", 5, desk.plan(1));
        candidates("not ahead", desk, 4, 0);
        GuideDesk began = desk(new int[][] {{0, 10, 20, 5, 1}});
        began.recorder(1, 4, 0, 2000);
        began.plan(1);
        began.clock(7);
        began.recorder(1, 0, 0, 2000);
        Check.due("ahead of the clock", 5, began.plan(1));
        candidates("ahead", began, 4, 1);
        Check.due("again", 5, began.plan(1));
        candidates("by its new span", began, 4, 0);
        // It counts also when it has ended.
        GuideDesk ended = desk(new int[][] {{0, 10, 20, 5, 1}});
        ended.plan(1);
        ended.clock(100);
        Check.due("ended", 5, ended.plan(1));
        candidates("ended", ended, 4, 1);
    }

    private static void keepsItsOwnTime() {
        Check.promise(18, "Of the i-th CANDIDATE of the PLAN at hand: what 0: its SHOWING (by its n)");
        GuideDesk desk = desk(new int[][] {{0, 10, 20, 5, 1}, {1, 15, 20, 2, 1}});
        desk.plan(2);
        desk.clock(100);
        desk.recorder(3, 6, 6, 0);
        desk.notice(0, 0, 0, 288, 9, 9, false);
        desk.read();
        candidates("kept", desk, 0, 0, 1);
        candidates("kept", desk, 1, 1, 0);
        candidates("kept", desk, 2, 0, 3);
        candidates("kept", desk, 3, -1, 0);
        candidates("kept", desk, 4, 0, 0);
        Check.due("its spans", 10, desk.count(7));
        Check.due("its members", 1, desk.count(6));
        Check.due("its n", 2, desk.count(8));
    }

    /** What earlier plans left behind does not matter to the next one. */
    private static void plansAnew() {
        Check.promise(17, "it is the one at hand");
        GuideDesk desk = desk(new int[][] {{0, 0, 10, 5, 1}, {1, 5, 10, 5, 1}, {2, 6, 10, 5, 1}, {3, 7, 10, 5, 2}});
        for (int i = 0; i < 3; i++) {
            Check.due("crowded", 5, desk.plan(4));
        }
        for (int channel = 0; channel < 4; channel++) {
            desk.notice(0, channel, 0, 288, 0, 0, false);
            desk.notice(0, channel, 10 * channel, 10 * channel + 10, 5, channel + 3, false);
        }
        for (int i = 0; i < 3; i++) {
            Check.due("all fit", 20, desk.plan(12));
            candidates("all fit", desk, 2, 0, 0, 0, 0);
            Check.due("none", 0, desk.plan(0));
            Check.due("crowded again", 5, desk.plan(4));
            candidates("crowded again", desk, 2, 3, 3, 3, 0);
        }
    }

    private static void everyWhy() {
        Check.promise(18, "2: WHY not: 0 it is in, 1 .., 2 .., 3 .., 4 ..; 3: the CANDIDATE in the PLAN that took its place");
        GuideDesk desk = desk(new int[][] {{0, 4, 6, 7, 1}, {0, 10, 20, 5, 1}, {1, 15, 25, 4, 1}, {2, 16, 27, 5, 1},
            {3, 50, 70, 3, 1}});
        desk.clock(5);
        desk.recorder(1, 0, 0, 29);
        Check.due("the plan", 5, desk.plan(5));
        candidates("every why", desk, 0, 0, 1, 2, 3, 4);
        candidates("every why", desk, 1, 0, 1, 0, 0, 0);
        candidates("every why", desk, 2, 1, 0, 3, 2, 4);
        candidates("every why", desk, 3, -1, -1, 1, 1, -1);
        candidates("every why", desk, 4, 0, 0, 0, 0, 0);
    }

    private static void withoutAPlan() {
        Check.promise(18, "NONE .. without a PLAN");
        GuideDesk desk = desk(new int[][] {{0, 10, 20, 5, 1}});
        desk.plan(2);
        desk.plan(-1);
        for (int what = -1; what <= 5; what++) {
            Check.due("what " + what, -1, desk.candidate(0, what));
        }
        Check.due("a plan of none", 0, desk.plan(0));
        for (int what = -1; what <= 5; what++) {
            Check.due("of none, what " + what, -1, desk.candidate(0, what));
        }
    }

    private static void noSuchCandidate() {
        Check.promise(18, "NONE for others");
        GuideDesk desk = desk(new int[][] {{0, 10, 20, 5, 1}, {0, 30, 40, 5, 2}});
        desk.plan(2);
        Check.due("the first", 1, desk.candidate(0, 1));
        Check.due("the last", 1, desk.candidate(1, 1));
        Check.due("the last thing", 0, desk.candidate(1, 4));
        int[][] wrong = {{-1, 0}, {2, 0}, {13, 0}, {14, 0}, {Check.LEAST, 0}, {Check.GREATEST, 0}, {0, -1}, {0, 5},
            {0, Check.LEAST}, {0, Check.GREATEST}, {-1, -1}, {2, 5}};
        for (int[] row : wrong) {
            Check.due("candidate " + row[0] + " " + row[1], -1, desk.candidate(row[0], row[1]));
        }
        // There were more in the plan ahead.
        desk.plan(1);
        Check.due("the last of the plan ahead", -1, desk.candidate(1, 0));
        GuideDesk most = fifteen();
        Check.due("the fourteenth", 13, most.candidate(13, 0));
        Check.due("a fifteenth", -1, most.candidate(14, 0));
    }
}
