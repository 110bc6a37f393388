import java.util.Arrays;

/** Promises 1 a new object, 6 channels, 7 source, 8 notice, 9 over, 10 recorder, 11 clock, 19 count. */
public final class FactsTest {
    public static void main(String[] args) {
        newObject();
        newRecorder();
        newClock();
        objectsShareNothing();
        channels();
        channelsRefused();
        source();
        sourceRefused();
        notice();
        noticeRefused();
        noticeOfNothing();
        over();
        overRefused();
        mostFacts();
        recorder();
        recorderRefused();
        clock();
        count();
        countOfPlan();
        countOfOthers();
        Check.finish();
    }

    /** Sources and channels, and no fact. */
    private static GuideDesk desk(int channels, int... trusts) {
        GuideDesk desk = new GuideDesk();
        desk.channels(channels);
        for (int trust : trusts) {
            desk.source(trust);
        }
        return desk;
    }

    private static void newObject() {
        Check.promise(1, "CHANNELS 1, no SOURCES, no WISHES");
        GuideDesk desk = new GuideDesk();
        int[] due = {1, 0, 0, 0, 0, -1, -1, -1, -1, 0};
        for (int what = 0; what < due.length; what++) {
            Check.due("count " + what, due[what], desk.count(what));
        }
        Check.due("an over on channel 1", -1, desk.over(1, 1, 1));
        Check.due("a notice of source 0", -1, desk.notice(0, 0, 0, 1, 1, 1, false));
        Check.due("what source 0 says", -1, desk.says(0, 0, 0, 0));
        Check.due("sent", -1, desk.sent(0, 0, 0));
        Check.due("showings", 0, desk.showings(0));
        Check.due("showing 0", -1, desk.showing(0, 0, 0));
        Check.due("place", -1, desk.place());
        Check.due("back 0", 0, desk.back(0));
        Check.due("back 1", -1, desk.back(1));
        Check.due("an over on channel 0", 0, desk.over(0, 1, 1));
        desk.source(1);
        desk.notice(0, 0, 0, 1, 1, 1, false);
        Check.due("a weight", 0, desk.showing(0, 2, 6));
        Check.due("a rule", -1, desk.holds(0, 0, 2));
    }

    private static void newRecorder() {
        Check.promise(1, "TUNERS 1, LEAD, TAIL 0, ROOM 2000");
        GuideDesk two = desk(2, 1);
        two.notice(0, 0, 0, 10, 1, 0, false);
        two.notice(0, 1, 9, 20, 2, 0, false);
        two.notice(0, 0, 20, 288, 3, 0, false);
        Check.read(two, "wish 1 if title == 1; wish 2 if title == 2; wish 3 if title == 3;");
        Check.due("one tuner", 5, two.plan(3));
        Check.due("why not", 3, two.candidate(0, 2));
        Check.due("no lead, no tail", 11 + 268, two.count(7));
        GuideDesk whole = desk(1, 1);
        whole.notice(0, 0, 0, 288, 1, 0, false);
        Check.read(whole, "wish 1 if live or first;");
        Check.due("room for a whole day", 1, whole.plan(1));
    }

    private static void newClock() {
        Check.promise(1, "the CLOCK's SLOT is 0; no PLAN");
        GuideDesk desk = desk(1, 1);
        for (int what = 0; what <= 4; what++) {
            Check.due("candidate 0, " + what, -1, desk.candidate(0, what));
        }
        for (int what = 5; what <= 8; what++) {
            Check.due("count " + what, -1, desk.count(what));
        }
        Check.due("the clock", 0, desk.count(4));
        desk.notice(0, 0, 0, 1, 1, 0, false);
        Check.read(desk, "wish 1 if first;");
        Check.due("what begins at slot 0", 1, desk.plan(1));
        Check.due("is not under way", 0, desk.candidate(0, 4));
    }

    private static void objectsShareNothing() {
        Check.promise(1, "A new object");
        GuideDesk ahead = Refusal.busy();
        GuideDesk desk = new GuideDesk();
        int[] due = {1, 0, 0, 0, 0, -1, -1, -1, -1, 0};
        for (int what = 0; what < due.length; what++) {
            Check.due("behind another, count " + what, due[what], desk.count(what));
        }
        Check.due("place", -1, desk.place());
        desk.source(1);
        desk.notice(0, 0, 0, 5, 9, 0, false);
        desk.plan(1);
        Check.due("the other's sent", 0, ahead.sent(0, 10, 4));
        Check.due("the other's facts", 4, ahead.count(2));
        Check.due("the other's plan", 3, ahead.count(5));
        Check.due("the other's tape", 39, ahead.count(9));
    }

    private static void channels() {
        Check.promise(6, "CHANNELS become n (1 .. 6): true");
        GuideDesk desk = new GuideDesk();
        int[] good = {1, 6, 6, 2, 5, 1, 3};
        for (int n : good) {
            Check.due("channels " + n, true, desk.channels(n));
            Check.due("they are " + n, n, desk.count(0));
        }
        Check.due("sent, known by 0", -1, desk.sent(2, 5, 0));
        desk.source(1);
        Check.due("a source is no fact", true, desk.channels(6));
        Check.due("sent on a new channel", -1, desk.sent(5, 5, 0));
        Check.due("a refused notice is no fact", -1, desk.notice(0, 6, 0, 1, 1, 1, false));
        Check.due("a refused over is no fact", -1, desk.over(0, 0, 1));
        Check.due("so they may change", true, desk.channels(2));
        Check.due("channel 2 is gone", -1, desk.notice(0, 2, 0, 1, 1, 1, false));
        Check.due("channel 1 is there", 0, desk.notice(0, 1, 0, 1, 1, 1, false));
    }

    private static void channelsRefused() {
        Check.promise(6, "false, and nothing happens, for another n, or if FACTS are told");
        int[] wrong = {0, -1, 7, Check.LEAST, Check.GREATEST};
        for (int n : wrong) {
            Refusal.due("channels " + n, 0, () -> desk(3, 5, 5), desk -> desk.channels(n) ? 1 : 0);
        }
        for (int n = 0; n <= 7; n++) {
            int channels = n;
            Refusal.due("with facts, channels " + n, false, desk -> desk.channels(channels));
        }
        GuideDesk told = desk(2);
        told.over(1, 1, 1);
        Check.due("with an over alone", false, told.channels(3));
        Check.due("two stay", 2, told.count(0));
    }

    private static void source() {
        Check.promise(7, "A SOURCE: its number");
        GuideDesk desk = new GuideDesk();
        int[] trusts = {1, 9, 5, 5, 2, 9};
        for (int i = 0; i < trusts.length; i++) {
            Check.due("source " + i, i, desk.source(trusts[i]));
            Check.due("how many", i + 1, desk.count(1));
        }
        for (int i = 0; i < trusts.length; i++) {
            desk.notice(i, 0, i, 6, 1, 1, false);
        }
        // Source 1 has the greatest trust; of source 5, which has as much, it is the least.
        int[] due = {0, 1, 1, 1, 1, 1};
        for (int t = 0; t < due.length; t++) {
            Check.due("sent at " + t, due[t], desk.sent(0, t, 6));
        }
    }

    private static void sourceRefused() {
        Check.promise(7, "NONE, and nothing happens: 6 are there, no such TRUST");
        int[] wrong = {0, 10, -1, Check.LEAST, Check.GREATEST};
        for (int trust : wrong) {
            Refusal.due("trust " + trust, -1, desk -> desk.source(trust));
        }
        Refusal.due("a seventh", -1, () -> desk(1, 5, 5, 5, 5, 5, 5), desk -> desk.source(9));
        Refusal.due("a seventh without trust", -1, () -> desk(1, 5, 5, 5, 5, 5, 5), desk -> desk.source(0));
        GuideDesk six = desk(1, 5, 5, 5, 5, 5, 5);
        six.source(9);
        Check.due("source 5 is there", 0, six.notice(5, 0, 0, 1, 1, 1, false));
        Check.due("source 6 is not", -1, six.notice(6, 0, 0, 1, 1, 1, false));
    }

    private static void notice() {
        Check.promise(8, "A NOTICE: its FACT's number");
        GuideDesk desk = desk(6, 4, 4);
        Check.due("the whole day", 0, desk.notice(0, 0, 0, 288, 31, 31, true));
        Check.due("the first slot", 1, desk.notice(0, 0, 0, 1, 1, 0, false));
        Check.due("the last slot", 2, desk.notice(0, 0, 287, 288, 1, 1, false));
        Check.due("the last source and channel", 3, desk.notice(1, 5, 100, 101, 1, 1, false));
        Check.due("facts", 4, desk.count(2));
        Check.due("sent at 0", 1, desk.sent(0, 0, 4));
        Check.due("sent at 1", 0, desk.sent(0, 1, 4));
        Check.due("sent at 286", 0, desk.sent(0, 286, 4));
        Check.due("sent at 287", 2, desk.sent(0, 287, 4));
        Check.due("ahead of a", -1, desk.sent(5, 99, 4));
        Check.due("at a", 3, desk.sent(5, 100, 4));
        Check.due("not with b", -1, desk.sent(5, 101, 4));
    }

    private static void noticeRefused() {
        Check.promise(8, "NONE, and nothing happens: .. no such SOURCE, CHANNEL, a not 0 .. b - 1, b above 288, "
            + "no such TITLE (0 .. 31), EPISODE");
        // Each row: source, channel, a, b, title, episode; one of them is wrong.
        int[][] wrong = {{-1, 0, 0, 1, 1, 1}, {2, 0, 0, 1, 1, 1}, {6, 0, 0, 1, 1, 1}, {Check.LEAST, 0, 0, 1, 1, 1},
            {Check.GREATEST, 0, 0, 1, 1, 1}, {0, -1, 0, 1, 1, 1}, {0, 2, 0, 1, 1, 1}, {0, 6, 0, 1, 1, 1},
            {0, Check.LEAST, 0, 1, 1, 1}, {0, Check.GREATEST, 0, 1, 1, 1}, {0, 0, -1, 1, 1, 1}, {0, 0, -1, 0, 1, 1},
            {0, 0, 0, 0, 1, 1}, {0, 0, 5, 5, 1, 1}, {0, 0, 6, 5, 1, 1}, {0, 0, 288, 288, 1, 1}, {0, 0, 288, 289, 1, 1},
            {0, 0, Check.LEAST, 5, 1, 1}, {0, 0, Check.GREATEST, 5, 1, 1}, {0, 0, 5, 289, 1, 1},
            {0, 0, 5, Check.GREATEST, 1, 1}, {0, 0, 5, -1, 1, 1}, {0, 0, 0, Check.LEAST, 1, 1},
            {0, 0, 5, 6, -1, 1}, {0, 0, 5, 6, 32, 1}, {0, 0, 5, 6, Check.LEAST, 1}, {0, 0, 5, 6, Check.GREATEST, 1},
            {0, 0, 5, 6, 1, -1}, {0, 0, 5, 6, 1, 32}, {0, 0, 5, 6, 1, Check.LEAST}, {0, 0, 5, 6, 1, Check.GREATEST}};
        for (int[] row : wrong) {
            Refusal.due("notice " + Arrays.toString(row), -1,
                desk -> desk.notice(row[0], row[1], row[2], row[3], row[4], row[5], true));
        }
    }

    private static void noticeOfNothing() {
        Check.promise(8, "(With TITLE 0 EPISODE and live are not looked at but for being such.)");
        int[] wrong = {-1, 32, Check.LEAST, Check.GREATEST};
        for (int episode : wrong) {
            Refusal.due("title 0, episode " + episode, -1, desk -> desk.notice(0, 0, 5, 6, 0, episode, false));
        }
        GuideDesk desk = desk(1, 4);
        desk.notice(0, 0, 0, 10, 1, 1, true);
        Check.due("episode 31, live", 1, desk.notice(0, 0, 5, 6, 0, 31, true));
        Check.due("episode 0, not live", 2, desk.notice(0, 0, 7, 8, 0, 0, false));
        Check.due("nothing is sent", -1, desk.sent(0, 5, 3));
        Check.due("nor here", -1, desk.sent(0, 7, 3));
        desk.over(0, 6, 1);
        Check.due("it is not live: an over does nothing", 0, desk.sent(0, 6, 4));
        Check.due("and pushes nothing", -1, desk.sent(0, 7, 4));
    }

    private static void over() {
        Check.promise(9, "An OVER: its FACT's number");
        GuideDesk desk = desk(6);
        Check.due("the first slot, the least", 0, desk.over(0, 1, 1));
        Check.due("the last slot, the most", 1, desk.over(5, 287, 48));
        Check.due("two facts", 2, desk.count(2));
    }

    private static void overRefused() {
        Check.promise(9, "NONE, and nothing happens: .. no such CHANNEL, t not 1 .. 287, no such d");
        int[][] wrong = {{-1, 10, 1}, {2, 10, 1}, {6, 10, 1}, {Check.LEAST, 10, 1}, {Check.GREATEST, 10, 1}, {0, 0, 1},
            {0, -1, 1}, {0, 288, 1}, {0, Check.LEAST, 1}, {0, Check.GREATEST, 1}, {0, 20, 0}, {0, 20, -1}, {0, 20, 49},
            {0, 20, Check.LEAST}, {0, 20, Check.GREATEST}};
        for (int[] row : wrong) {
            Refusal.due("over " + row[0] + " " + row[1] + " " + row[2], -1, desk -> desk.over(row[0], row[1], row[2]));
        }
    }

    private static GuideDesk toldAll() {
        GuideDesk desk = desk(1, 4);
        for (int i = 0; i < 300; i++) {
            if (i % 2 == 0) {
                desk.notice(0, 0, 0, 5, 1, 1, true);
            } else {
                desk.over(0, 5, 1);
            }
        }
        return desk;
    }

    private static void mostFacts() {
        Check.promise(8, "NONE, and nothing happens: 300 are there");
        GuideDesk desk = desk(1, 4);
        for (int i = 0; i < 300; i++) {
            Check.due("fact " + i, i, i % 2 == 0 ? desk.notice(0, 0, 0, 5, 1, 1, true) : desk.over(0, 5, 1));
        }
        Check.due("300 facts", 300, desk.count(2));
        Check.due("the last notice, by all overs", 298, desk.sent(0, 154, 300));
        Check.due("behind all overs", -1, desk.sent(0, 155, 300));
        Check.due("known by 299", 298, desk.sent(0, 153, 299));
        Check.due("known by 301", -1, desk.sent(0, 0, 301));
        Refusal.due("a 301st notice", -1, FactsTest::toldAll, d -> d.notice(0, 0, 0, 5, 1, 1, true));
        Check.due("a source may come", 1, desk.source(4));
        Check.promise(9, "NONE, and nothing happens: 300 are there");
        Refusal.due("a 301st over", -1, FactsTest::toldAll, d -> d.over(0, 5, 1));
    }

    /** One showing, ten slots long, in the midst of the day. */
    private static GuideDesk ten() {
        GuideDesk desk = desk(1, 1);
        desk.notice(0, 0, 100, 110, 1, 1, false);
        Check.read(desk, "wish 1 if first;");
        return desk;
    }

    private static void recorder() {
        Check.promise(10, "TUNERS, LEAD, TAIL and ROOM become these: true");
        GuideDesk desk = ten();
        Check.due("the least", true, desk.recorder(1, 0, 0, 0));
        Check.due("no room", 0, desk.plan(1));
        Check.due("the most", true, desk.recorder(3, 6, 6, 2000));
        Check.due("it fits", 1, desk.plan(1));
        Check.due("lead and tail", 22, desk.count(7));
        Check.due("a lead alone", true, desk.recorder(2, 5, 0, 15));
        Check.due("it just fits", 1, desk.plan(1));
        Check.due("with a lead", 15, desk.count(7));
        Check.due("a tail alone", true, desk.recorder(2, 0, 3, 12));
        Check.due("it just does not fit", 0, desk.plan(1));
        Check.due("the plan at hand stays", true, desk.recorder(2, 0, 0, 2000));
        Check.due("until there is another", 0, desk.count(6));
        for (int tuners = 1; tuners <= 3; tuners++) {
            GuideDesk many = desk(6, 1);
            for (int channel = 0; channel < 6; channel++) {
                many.notice(0, channel, 0, 288, channel + 1, 0, false);
            }
            Check.read(many, "wish 1 if first;");
            Check.due("tuners", true, many.recorder(tuners, 0, 0, 2000));
            Check.due(tuners + " tuners", tuners, many.plan(6));
        }
    }

    private static void recorderRefused() {
        Check.promise(10, "false, and nothing happens, for others");
        int[][] wrong = {{0, 0, 0, 100}, {-1, 0, 0, 100}, {4, 0, 0, 100}, {2, -1, 0, 100}, {2, 7, 0, 100}, {2, 0, -1, 100},
            {2, 0, 7, 100}, {2, 0, 0, -1}, {2, 0, 0, 2001}, {Check.LEAST, 0, 0, 100}, {Check.GREATEST, 0, 0, 100},
            {2, Check.LEAST, 0, 100}, {2, Check.GREATEST, 0, 100}, {2, 0, Check.LEAST, 100}, {2, 0, Check.GREATEST, 100},
            {2, 0, 0, Check.LEAST}, {2, 0, 0, Check.GREATEST}};
        for (int[] row : wrong) {
            Refusal.due("recorder " + Arrays.toString(row), false,
                desk -> desk.recorder(row[0], row[1], row[2], row[3]));
        }
        GuideDesk desk = ten();
        desk.recorder(1, 5, 1, 16);
        desk.recorder(1, 0, 7, 2000);
        desk.recorder(1, 0, 0, 2001);
        Check.due("what was told before", 1, desk.plan(1));
        Check.due("with its lead and tail", 16, desk.count(7));
    }

    private static void clock() {
        Check.promise(11, "The CLOCK's SLOT becomes t: true");
        GuideDesk desk = new GuideDesk();
        int[] good = {0, 0, 1, 7, 7, 286, 287, 287};
        for (int t : good) {
            Check.due("clock " + t, true, desk.clock(t));
            Check.due("it is " + t, t, desk.count(4));
        }
        Check.promise(11, "false: below the CLOCK's, or above 287");
        int[] wrong = {4, 0, -1, 288, Check.LEAST, Check.GREATEST};
        for (int t : wrong) {
            Refusal.due("clock " + t, false, d -> d.clock(t));
        }
        Check.due("-1 of a new object", false, new GuideDesk().clock(-1));
        Check.due("286 behind 287", false, desk.clock(286));
        Check.due("288 behind 287", false, desk.clock(288));
        Check.due("it stays", 287, desk.count(4));
    }

    private static void count() {
        Check.promise(19, "0 CHANNELS, 1 SOURCES, 2 FACTS, 3 RULES, 4 the CLOCK's SLOT, 5 CANDIDATES of the PLAN at hand, "
            + "6 how many are in it, 7 its SPANS together, 8 its n .. 9 bytes on the tape");
        GuideDesk desk = desk(3, 1, 2);
        desk.notice(0, 2, 5, 9, 1, 1, false);
        desk.notice(1, 2, 7, 12, 2, 1, false);
        desk.notice(1, 1, 7, 9, 3, 0, true);
        desk.over(1, 9, 1);
        Check.read(desk, "wish 3 if title == 1; wish 4 if title == 2; never if live;");
        desk.clock(3);
        desk.recorder(1, 1, 1, 100);
        desk.plan(3);
        desk.feed(0, 0, 0, 0, 0);
        int[] due = {3, 2, 4, 3, 3, 2, 1, 7, 3, 20};
        for (int what = 0; what < due.length; what++) {
            Check.due("count " + what, due[what], desk.count(what));
        }
    }

    private static void countOfPlan() {
        Check.promise(19, "5 .. 8: NONE without one");
        GuideDesk desk = desk(1, 1);
        desk.notice(0, 0, 0, 1, 1, 1, false);
        desk.plan(2);
        for (int what = 5; what <= 8; what++) {
            Check.due("without a plan, count " + what, -1, desk.count(what));
        }
        Check.due("a plan without candidates", 0, desk.plan(0));
        for (int what = 5; what <= 8; what++) {
            Check.due("with it, count " + what, 0, desk.count(what));
        }
        Check.due("another n", 0, desk.plan(1));
        Check.due("its n", 1, desk.count(8));
    }

    private static void countOfOthers() {
        Check.promise(19, "NONE for others");
        int[] wrong = {-1, 10, 11, Check.LEAST, Check.GREATEST};
        for (int what : wrong) {
            Check.due("of a new object, count " + what, -1, new GuideDesk().count(what));
            Refusal.due("count " + what, -1, desk -> desk.count(what));
        }
    }
}
