import java.util.Random;

/** All promises: random runs of calls, each answer held against the oracle's. The seeds are fixed. */
public final class AgreementTest {
    private static final int RUNS = 800;
    // What an object answers behind that many calls is free.
    private static final int MOST_CALLS = 512;
    private static final String[] WORDS = {"wish", "never", "if", "or", "and", "live", "first", "title", "episode",
        "channel", "from", "until", "length", "trust", ";", "+", "-", "*", "==", "!=", "<", "<=", "(", ")", "5", "0",
        "1000", "1001", "12345", "x", "=", "!", "episodes", "toolongword", "\u00e9", "\n", "\t"};
    private static final String[] VARIABLES = {"title", "episode", "channel", "from", "until", "length", "trust"};
    private static final String[] COMPARISONS = {"==", "!=", "<", "<="};

    private final Random random;
    private final GuideDesk desk = new GuideDesk();
    private final Oracle oracle = new Oracle();
    private final StringBuilder calls = new StringBuilder();
    private final int spread;
    private boolean isSound = true;
    private int asked = 0;

    private AgreementTest(long seed) {
        random = new Random(seed);
        spread = 20 + random.nextInt(3) * 134;
    }

    public static void main(String[] args) {
        for (int seed = 0; seed < RUNS; seed++) {
            new AgreementTest(seed).run(seed);
        }
        Check.finish();
    }

    private void run(int seed) {
        int length = seed % 20 == 0 ? 400 : 30 + random.nextInt(120);
        begin();
        for (int i = 0; i < length && isSound && asked < MOST_CALLS; i++) {
            if (seed % 10 == 9) {
                callForCrowds();
            } else if (seed % 2 == 0) {
                call();
            } else {
                callForPlans();
            }
        }
        if (!isSound) {
            System.out.println("seed " + seed + ":" + calls);
        }
    }

    private void due(String call, int want, int got) {
        asked++;
        if (asked > MOST_CALLS) {
            return;
        }
        calls.append('\n').append(call).append(" -> ").append(got);
        isSound = isSound && want == got;
        Check.due(call, want, got);
    }

    private void due(String call, boolean want, boolean got) {
        due(call, want ? 1 : 0, got ? 1 : 0);
    }

    /** Mostly of 0 .. bound - 1, now and then beside it. */
    private int pick(int bound) {
        int lot = random.nextInt(60);
        return lot == 0 ? -1 : lot == 1 ? bound : lot == 2 ? random.nextInt() : random.nextInt(Math.max(bound, 1));
    }

    private int known() {
        int told = oracle.count(2);
        return random.nextInt(3) > 0 ? told : pick(told + 1);
    }

    private void begin() {
        int channels = 1 + random.nextInt(6);
        due("channels " + channels, oracle.channels(channels), desk.channels(channels));
        for (int i = random.nextInt(4); i >= 0; i--) {
            source();
        }
        text(wishes());
        read();
    }

    private void call() {
        int lot = random.nextInt(100);
        if (lot < 22) {
            notice();
        } else if (lot < 30) {
            over();
        } else if (lot < 31) {
            int n = pick(7);
            due("channels " + n, oracle.channels(n), desk.channels(n));
        } else if (lot < 32) {
            source();
        } else if (lot < 40) {
            text(random.nextInt(5) > 0 ? wishes() : scrawl());
            read();
        } else if (lot < 42) {
            tape();
        } else if (lot < 46) {
            recorder();
        } else if (lot < 49) {
            clock();
        } else if (lot < 75) {
            look();
        } else if (lot < 84) {
            plan();
        } else {
            int what = pick(10);
            due("count " + what, oracle.count(what), desk.count(what));
        }
    }

    /** Many plans while the clock goes on slowly, so that there is something under way. */
    private void callForPlans() {
        int lot = random.nextInt(100);
        if (lot < 30 && oracle.count(2) < 40) {
            notice();
        } else if (lot < 36) {
            over();
        } else if (lot < 40) {
            text("wish 3 if title <= 2; wish 4 if title == 2 or live; wish 2 if 2 < title;"
                + (random.nextBoolean() ? "never if episode == 2 and live;" : ""));
            read();
        } else if (lot < 50) {
            recorder();
        } else if (lot < 65) {
            clock();
        } else {
            plan();
        }
    }

    /** Plans of many candidates with like weights, while tuners and room come and go: several are under way at once. */
    private void callForCrowds() {
        int lot = random.nextInt(100);
        if (oracle.count(2) < 13) {
            crowd();
        } else if (oracle.count(4) == 0) {
            recorder(3, 2000);
            plan();
            int t = 8 + random.nextInt(16);
            due("clock " + t, oracle.clock(t), desk.clock(t));
        } else if (lot < 35) {
            recorder(1 + random.nextInt(3), 20 + random.nextInt(120));
        } else if (lot < 45) {
            clock();
        } else if (lot < 50) {
            over();
        } else {
            plan();
        }
    }

    private void crowd() {
        if (oracle.count(2) == 0) {
            text("wish 2 if trust < 9; wish 3 if live; wish 3 if title < 3;");
            read();
        }
        int channel = random.nextInt(oracle.count(0));
        int a = random.nextInt(40);
        int b = a + 1 + random.nextInt(20);
        int title = 1 + random.nextInt(9);
        boolean live = random.nextBoolean();
        due("notice 0 " + channel + " " + a + " " + b + " " + title + " 1 " + live,
            oracle.notice(0, channel, a, b, title, 1, live), desk.notice(0, channel, a, b, title, 1, live));
    }

    private void recorder(int tuners, int room) {
        int lead = random.nextInt(3);
        int tail = random.nextInt(3);
        due("recorder " + tuners + " " + lead + " " + tail + " " + room, oracle.recorder(tuners, lead, tail, room),
            desk.recorder(tuners, lead, tail, room));
    }

    private void clock() {
        int t = random.nextInt(40) > 0 ? oracle.count(4) + random.nextInt(4) : pick(288);
        due("clock " + t, oracle.clock(t), desk.clock(t));
    }

    private void source() {
        int trust = random.nextInt(4) == 0 ? pick(11) : 4 + random.nextInt(2);
        due("source " + trust, oracle.source(trust), desk.source(trust));
    }

    private void notice() {
        int source = pick(oracle.count(1));
        int channel = pick(oracle.count(0));
        int a = pick(spread);
        int b = random.nextInt(20) == 0 ? pick(290) : Math.min(a + 1 + random.nextInt(1 + spread / 3), 288);
        int title = random.nextInt(8) == 0 ? 0 : random.nextInt(4) > 0 ? 1 + random.nextInt(4) : pick(32);
        int episode = random.nextInt(4) > 0 ? random.nextInt(3) : pick(32);
        boolean live = random.nextBoolean();
        due("notice " + source + " " + channel + " " + a + " " + b + " " + title + " " + episode + " " + live,
            oracle.notice(source, channel, a, b, title, episode, live),
            desk.notice(source, channel, a, b, title, episode, live));
    }

    private void over() {
        int channel = pick(oracle.count(0));
        int t = pick(spread);
        int d = random.nextInt(3) > 0 ? 1 + random.nextInt(5) : pick(49);
        due("over " + channel + " " + t + " " + d, oracle.over(channel, t, d), desk.over(channel, t, d));
    }

    private void recorder() {
        int tuners = pick(4);
        int lead = random.nextBoolean() ? 0 : pick(7);
        int tail = random.nextBoolean() ? 0 : pick(7);
        int room = random.nextBoolean() ? 2000 : random.nextBoolean() ? random.nextInt(spread) : pick(2001);
        due("recorder " + tuners + " " + lead + " " + tail + " " + room, oracle.recorder(tuners, lead, tail, room),
            desk.recorder(tuners, lead, tail, room));
    }

    private void look() {
        int n = known();
        int showings = Math.max(oracle.showings(n), 1);
        int k = pick(showings);
        int channel = pick(oracle.count(0));
        int t = pick(spread);
        int what = pick(9);
        int source = pick(oracle.count(1));
        int rule = pick(oracle.count(3));
        due("sent " + channel + " " + t + " " + n, oracle.sent(channel, t, n), desk.sent(channel, t, n));
        due("says " + source + " " + channel + " " + t + " " + n, oracle.says(source, channel, t, n),
            desk.says(source, channel, t, n));
        due("showings " + n, oracle.showings(n), desk.showings(n));
        due("showing " + k + " " + n + " " + what, oracle.showing(k, n, what), desk.showing(k, n, what));
        due("holds " + rule + " " + k + " " + n, oracle.holds(rule, k, n), desk.holds(rule, k, n));
    }

    private void plan() {
        int n = known();
        due("plan " + n, oracle.plan(n), desk.plan(n));
        for (int i = 0; i < oracle.count(5); i++) {
            for (int what = 0; what <= 4; what++) {
                due("candidate " + i + " " + what, oracle.candidate(i, what), desk.candidate(i, what));
            }
        }
        int i = pick(15);
        int what = pick(5);
        due("candidate " + i + " " + what, oracle.candidate(i, what), desk.candidate(i, what));
    }

    private void tape() {
        int a = random.nextInt();
        int n = pick(30);
        due("feed " + a, oracle.feed(a, 1, 2, 3, 4), desk.feed(a, 1, 2, 3, 4));
        due("back " + n, oracle.back(n), desk.back(n));
        if (random.nextInt(8) == 0) {
            for (int i = 0; i < 101; i++) {
                due("feed more", oracle.feed(0, 0, 0, 0, 0), desk.feed(0, 0, 0, 0, 0));
            }
        }
        read();
    }

    private void text(String text) {
        calls.append("\ntext ").append(text);
        String whole = text.length() > 1980 ? text.substring(0, 1980) : text;
        byte[] bytes = Check.bytes(whole + " ".repeat(19));
        for (int i = 0; i + 20 <= bytes.length; i += 20) {
            int[] w = new int[5];
            for (int j = 0; j < 5; j++) {
                w[j] = Check.word(bytes, i + 4 * j);
            }
            due("feed", oracle.feed(w), desk.feed(w[0], w[1], w[2], w[3], w[4]));
        }
    }

    private void read() {
        due("read", oracle.read(), desk.read());
        due("place", oracle.place(), desk.place());
    }

    /** A good text, or one that just misses being so. */
    private String wishes() {
        StringBuilder text = new StringBuilder();
        int rules = random.nextInt(30) == 0 ? 18 + random.nextInt(5) : random.nextInt(5);
        for (int i = 0; i < rules; i++) {
            int amount = random.nextInt(40) == 0 ? random.nextInt(1100) : 1 + random.nextInt(6);
            text.append(random.nextInt(5) == 0 ? "never" : "wish " + amount).append(" if ").append(condition()).append(";");
            text.append(random.nextBoolean() ? "" : " \n");
        }
        if (random.nextInt(6) == 0 && text.length() > 0) {
            int at = random.nextInt(text.length());
            text.insert(at, WORDS[random.nextInt(WORDS.length)]);
        }
        if (random.nextInt(12) == 0 && text.length() > 0) {
            text.setLength(random.nextInt(text.length()));
        }
        return text.toString();
    }

    private String condition() {
        StringBuilder text = new StringBuilder(literal());
        int more = random.nextInt(60) == 0 ? 200 : random.nextInt(3);
        for (int i = 0; i < more; i++) {
            text.append(random.nextBoolean() ? " and " : " or ").append(more > 99 ? "live" : literal());
        }
        return text.toString();
    }

    private String literal() {
        int lot = random.nextInt(10);
        if (lot < 2) {
            return lot == 0 ? "live" : "first";
        }
        if (lot < 6) {
            return VARIABLES[random.nextInt(2)] + COMPARISONS[random.nextInt(4)] + random.nextInt(5);
        }
        return sum(0) + COMPARISONS[random.nextInt(4)] + sum(0);
    }

    private String sum(int depth) {
        StringBuilder text = new StringBuilder(unit(depth));
        for (int i = random.nextInt(3); i > 0; i--) {
            text.append("+-*".charAt(random.nextInt(3))).append(random.nextBoolean() ? " " : "").append(unit(depth));
        }
        return text.toString();
    }

    private String unit(int depth) {
        int lot = random.nextInt(depth > 0 ? 2 + depth : 6);
        if (lot == 0 && depth < 8) {
            return "(" + sum(depth + 1) + ")";
        }
        return lot < 3 ? VARIABLES[random.nextInt(7)] : String.valueOf(random.nextInt(random.nextBoolean() ? 20 : 10000));
    }

    private String scrawl() {
        StringBuilder text = new StringBuilder("wish 5 if ");
        for (int i = random.nextInt(12); i >= 0; i--) {
            text.append(WORDS[random.nextInt(WORDS.length)]).append(random.nextInt(3) == 0 ? "" : " ");
        }
        return text.toString();
    }
}
