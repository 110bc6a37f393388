/** Promises 1 a new object, 6 channels, 7 source, 8 notice, 9 over, 10 recorder, 11 clock, 19 count. */
public final class FactsTest {
    public static void main(String[] args) {
        newObject();
        channels();
        source();
        notice();
        noticeEdges();
        over();
        mostFacts();
        recorder();
        clock();
        count();
        Check.finish();
    }

    private static void newObject() {
        GuideDesk desk = new GuideDesk();
        int[] due = {1, 0, 0, 0, 0, -1, -1, -1, -1, 0};
        for (int what = 0; what < due.length; what++) {
            Check.due("new: count " + what, due[what], desk.count(what));
        }
        Check.due("new: place", -1, desk.place());
        Check.due("new: showings", 0, desk.showings(0));
        Check.due("new: candidate", -1, desk.candidate(0, 0));
        Check.due("new: sent", -1, desk.sent(0, 0, 0));
        // One tuner, no lead, no tail, room of 2000: two showings side by side fit, a third beside them does not.
        desk.channels(6);
        desk.source(1);
        for (int channel = 0; channel < 6; channel++) {
            desk.notice(0, channel, 0, 10, channel + 1, 0, false);
            desk.notice(0, channel, 10, 288, channel + 11, 0, false);
        }
        Check.read(desk, "wish 1 if title == 1 or title == 11; wish 2 if title == 2;");
        Check.due("new: plan", 3, desk.plan(12));
        Check.due("new: one tuner", 3, desk.candidate(0, 2));
        Check.due("new: no lead, no tail", 288, desk.count(7));
        GuideDesk wide = new GuideDesk();
        wide.channels(6);
        wide.source(1);
        for (int channel = 0; channel < 6; channel++) {
            wide.notice(0, channel, 0, 288, channel + 1, 0, false);
        }
        Check.read(wide, "wish 1 if 1 == 1;");
        wide.recorder(3, 0, 0, 864);
        Check.due("three tuners", 3, wide.plan(6));
    }

    private static void channels() {
        GuideDesk desk = new GuideDesk();
        Check.due("channels 0", false, desk.channels(0));
        Check.due("channels -1", false, desk.channels(-1));
        Check.due("channels 7", false, desk.channels(7));
        Check.due("nothing happens", 1, desk.count(0));
        Check.due("channels 1", true, desk.channels(1));
        Check.due("channels 6", true, desk.channels(6));
        Check.due("six", 6, desk.count(0));
        Check.due("channels 6 again", true, desk.channels(6));
        Check.due("channels 2", true, desk.channels(2));
        desk.source(1);
        Check.due("sources are no facts", true, desk.channels(3));
        Check.due("sent before facts", -1, desk.sent(2, 5, 0));
        Check.due("wider", true, desk.channels(6));
        Check.due("sent on a new channel", -1, desk.sent(5, 5, 0));
        Check.due("narrower", true, desk.channels(2));
        desk.over(1, 1, 1);
        Check.due("after a fact", false, desk.channels(2));
        Check.due("after a fact, another", false, desk.channels(4));
        Check.due("two stay", 2, desk.count(0));
    }

    private static void source() {
        GuideDesk desk = new GuideDesk();
        Check.due("trust 0", -1, desk.source(0));
        Check.due("trust 10", -1, desk.source(10));
        Check.due("trust -1", -1, desk.source(-1));
        Check.due("none came", 0, desk.count(1));
        int[] trusts = {1, 9, 5, 5, 2, 9};
        for (int i = 0; i < trusts.length; i++) {
            Check.due("source " + i, i, desk.source(trusts[i]));
        }
        Check.due("a seventh", -1, desk.source(5));
        Check.due("six stay", 6, desk.count(1));
    }

    private static void notice() {
        GuideDesk desk = new GuideDesk();
        Check.due("no source", -1, desk.notice(0, 0, 0, 1, 1, 1, false));
        desk.source(4);
        Check.due("source -1", -1, desk.notice(-1, 0, 0, 1, 1, 1, false));
        Check.due("source 1", -1, desk.notice(1, 0, 0, 1, 1, 1, false));
        Check.due("channel -1", -1, desk.notice(0, -1, 0, 1, 1, 1, false));
        Check.due("channel 1", -1, desk.notice(0, 1, 0, 1, 1, 1, false));
        Check.due("a -1", -1, desk.notice(0, 0, -1, 1, 1, 1, false));
        Check.due("a is b", -1, desk.notice(0, 0, 5, 5, 1, 1, false));
        Check.due("a above b", -1, desk.notice(0, 0, 6, 5, 1, 1, false));
        Check.due("b 289", -1, desk.notice(0, 0, 5, 289, 1, 1, false));
        Check.due("b least", -1, desk.notice(0, 0, 0, Integer.MIN_VALUE, 1, 1, false));
        Check.due("title -1", -1, desk.notice(0, 0, 0, 1, -1, 1, false));
        Check.due("title 32", -1, desk.notice(0, 0, 0, 1, 32, 1, false));
        Check.due("episode -1", -1, desk.notice(0, 0, 0, 1, 1, -1, false));
        Check.due("episode 32", -1, desk.notice(0, 0, 0, 1, 1, 32, false));
        Check.due("title 0, episode 32", -1, desk.notice(0, 0, 0, 1, 0, 32, false));
        Check.due("title 0, episode -1", -1, desk.notice(0, 0, 0, 1, 0, -1, false));
        Check.due("no facts", 0, desk.count(2));
    }

    private static void noticeEdges() {
        GuideDesk desk = new GuideDesk();
        desk.source(4);
        Check.due("whole day", 0, desk.notice(0, 0, 0, 288, 31, 31, true));
        Check.due("first slot", 1, desk.notice(0, 0, 0, 1, 1, 0, false));
        Check.due("last slot", 2, desk.notice(0, 0, 287, 288, 1, 1, false));
        Check.due("nothing", 3, desk.notice(0, 0, 5, 6, 0, 31, true));
        Check.due("facts", 4, desk.count(2));
        Check.due("sent 0", 1, desk.sent(0, 0, 4));
        Check.due("sent 1", 0, desk.sent(0, 1, 4));
        Check.due("sent 286", 0, desk.sent(0, 286, 4));
        Check.due("sent 287", 2, desk.sent(0, 287, 4));
        Check.due("sent 5", -1, desk.sent(0, 5, 4));
    }

    private static void over() {
        GuideDesk desk = new GuideDesk();
        Check.due("channel -1", -1, desk.over(-1, 1, 1));
        Check.due("channel 1", -1, desk.over(1, 1, 1));
        Check.due("t 0", -1, desk.over(0, 0, 1));
        Check.due("t 288", -1, desk.over(0, 288, 1));
        Check.due("t least", -1, desk.over(0, Integer.MIN_VALUE, 1));
        Check.due("d 0", -1, desk.over(0, 1, 0));
        Check.due("d -1", -1, desk.over(0, 1, -1));
        Check.due("d 49", -1, desk.over(0, 1, 49));
        Check.due("no facts", 0, desk.count(2));
        Check.due("first", 0, desk.over(0, 1, 1));
        Check.due("last", 1, desk.over(0, 287, 48));
        Check.due("two facts", 2, desk.count(2));
    }

    private static void mostFacts() {
        GuideDesk desk = new GuideDesk();
        desk.source(4);
        for (int i = 0; i < 300; i++) {
            int got = i % 2 == 0 ? desk.notice(0, 0, 0, 5, 1, 1, true) : desk.over(0, 5, 1);
            Check.due("fact " + i, i, got);
        }
        Check.due("a 301st notice", -1, desk.notice(0, 0, 0, 5, 1, 1, true));
        Check.due("a 301st over", -1, desk.over(0, 5, 1));
        Check.due("300 facts", 300, desk.count(2));
        Check.due("a source may come", 1, desk.source(4));
        Check.due("known by 300", 298, desk.sent(0, 154, 300));
        Check.due("behind all overs", -1, desk.sent(0, 155, 300));
    }

    private static void recorder() {
        GuideDesk desk = new GuideDesk();
        int[][] wrong = {{0, 0, 0, 0}, {4, 0, 0, 0}, {1, -1, 0, 0}, {1, 7, 0, 0}, {1, 0, -1, 0}, {1, 0, 7, 0},
            {1, 0, 0, -1}, {1, 0, 0, 2001}};
        for (int[] row : wrong) {
            Check.due("recorder", false, desk.recorder(row[0], row[1], row[2], row[3]));
        }
        desk.source(1);
        desk.notice(0, 0, 10, 20, 1, 1, false);
        Check.read(desk, "wish 1 if 1 == 1;");
        desk.plan(1);
        Check.due("nothing happened", 10, desk.count(7));
        Check.due("least", true, desk.recorder(1, 0, 0, 0));
        Check.due("no room", 0, desk.plan(1));
        Check.due("most", true, desk.recorder(3, 6, 6, 2000));
        desk.plan(1);
        Check.due("lead and tail", 22, desk.count(7));
        Check.due("lead alone", true, desk.recorder(3, 5, 0, 2000));
        desk.plan(1);
        Check.due("with lead", 15, desk.count(7));
        Check.due("wrong keeps it", false, desk.recorder(3, 0, 7, 2000));
        desk.plan(1);
        Check.due("still with lead", 15, desk.count(7));
    }

    private static void clock() {
        GuideDesk desk = new GuideDesk();
        Check.due("-1", false, desk.clock(-1));
        Check.due("0", true, desk.clock(0));
        Check.due("7", true, desk.clock(7));
        Check.due("7 again", true, desk.clock(7));
        Check.due("6", false, desk.clock(6));
        Check.due("288", false, desk.clock(288));
        Check.due("greatest", false, desk.clock(Integer.MAX_VALUE));
        Check.due("it is 7", 7, desk.count(4));
        Check.due("287", true, desk.clock(287));
        Check.due("it is 287", 287, desk.count(4));
    }

    private static void count() {
        GuideDesk desk = new GuideDesk();
        desk.channels(3);
        desk.source(1);
        desk.source(2);
        desk.notice(0, 2, 5, 9, 1, 1, false);
        desk.notice(1, 2, 7, 12, 2, 1, false);
        desk.notice(1, 1, 7, 9, 3, 0, true);
        desk.over(1, 9, 1);
        Check.read(desk, "wish 3 if title == 1; wish 4 if title == 2; never if live;");
        desk.clock(3);
        desk.recorder(1, 1, 1, 100);
        desk.plan(3);
        desk.feed(0, 0, 0, 0, 0);
        int[] due = {3, 2, 4, 3, 3, 2, 1, 7, 3, 20};
        for (int what = 0; what < due.length; what++) {
            Check.due("count " + what, due[what], desk.count(what));
        }
        Check.due("count -1", -1, desk.count(-1));
        Check.due("count 10", -1, desk.count(10));
        GuideDesk bare = new GuideDesk();
        Check.due("an empty plan", 0, bare.plan(0));
        for (int what = 5; what <= 8; what++) {
            Check.due("empty plan, count " + what, 0, bare.count(what));
        }
        Check.due("empty plan, count 10", -1, bare.count(10));
    }
}
