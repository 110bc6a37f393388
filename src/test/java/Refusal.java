import java.util.function.Supplier;
import java.util.function.ToIntFunction;

/** Refused calls: a desk that had one answers all that follows as its twin does, which never had it. */
final class Refusal {
    private static final int[] SLOTS = {0, 9, 10, 17, 19, 22, 287};

    private Refusal() {
    }

    /** On a desk that has some of everything the call answers this, and nothing happens. */
    static void due(String what, int want, ToIntFunction<GuideDesk> call) {
        due(what, want, Refusal::busy, call);
    }

    static void due(String what, boolean want, Predicate call) {
        due(what, want ? 1 : 0, desk -> call.test(desk) ? 1 : 0);
    }

    static void due(String what, int want, Supplier<GuideDesk> made, ToIntFunction<GuideDesk> call) {
        GuideDesk desk = made.get();
        GuideDesk twin = made.get();
        Check.due(what, want, call.applyAsInt(desk));
        Check.due(what + ", nothing happens", true, state(desk).equals(state(twin)));
        goOn(desk);
        goOn(twin);
        Check.due(what + ", nothing happens to what follows", true, state(desk).equals(state(twin)));
    }

    /** A call that answers by true or false. */
    interface Predicate {
        boolean test(GuideDesk desk);
    }

    /** Two channels, two sources, four facts, three rules, a plan, the place of a fault, and a text on the tape. */
    static GuideDesk busy() {
        GuideDesk desk = new GuideDesk();
        desk.channels(2);
        desk.source(5);
        desk.source(7);
        desk.notice(0, 0, 10, 20, 1, 1, true);
        desk.notice(1, 0, 18, 26, 2, 0, false);
        desk.notice(0, 1, 12, 24, 1, 1, false);
        desk.over(0, 18, 2);
        desk.recorder(1, 2, 1, 40);
        Check.read(desk, "wish 5 if title == 1; wish 3 if title == 2; never if 200 < from;");
        desk.clock(5);
        desk.plan(4);
        Check.read(desk, "wish 7");
        Check.type(desk, Check.bytes("wish 4 if live; wish 9 if episode == 0;"));
        return desk;
    }

    /** What the calls that change nothing answer. */
    private static String state(GuideDesk desk) {
        StringBuilder text = new StringBuilder();
        for (int what = 0; what <= 9; what++) {
            text.append(desk.count(what)).append(' ');
        }
        int n = desk.count(2);
        text.append(desk.place()).append(' ').append(desk.showings(n)).append(' ');
        for (int t : SLOTS) {
            text.append(desk.sent(0, t, n)).append(' ').append(desk.says(1, 0, t, n)).append(' ');
        }
        for (int k = 0; k < Math.min(desk.showings(n), 4); k++) {
            for (int what = 0; what <= 8; what++) {
                text.append(desk.showing(k, n, what)).append(' ');
            }
            text.append(desk.holds(0, k, n)).append(' ');
        }
        for (int i = 0; i < Math.min(desk.count(5), 4); i++) {
            for (int what = 0; what <= 4; what++) {
                text.append(desk.candidate(i, what)).append(' ');
            }
        }
        return text.toString();
    }

    /** Calls that show what no other call tells: the recorder's settings, the bytes of the tape, what is under way. */
    private static void goOn(GuideDesk desk) {
        desk.read();
        desk.notice(0, 0, 30, 40, 3, 0, true);
        desk.over(0, 40, 3);
        desk.clock(desk.count(4) + 4);
        desk.plan(desk.count(2));
    }
}
