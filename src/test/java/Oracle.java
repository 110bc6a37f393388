import java.util.ArrayList;
import java.util.Arrays;
import java.util.List;

/** The document once more, slow and by its words, so that random runs can be held against the class. */
final class Oracle {
    private static final List<String> WORDS = List.of("title", "episode", "channel", "from", "until", "length", "trust");

    private record Fact(boolean isNotice, int source, int channel, int a, int b, int title, int episode, boolean live) {
    }

    private record Run(int fact, int channel, int from, int until, int title, int episode) {
        boolean isOne(Run o) {
            return title == o.title && episode == o.episode && episode != 0;
        }

        boolean isDoubted(Run o) {
            return title == o.title && (episode == 0 || o.episode == 0);
        }
    }

    private record Member(Run run, int number, int weight, int begin, int end, boolean underWay, boolean allowed) {
        boolean meets(Member o) {
            for (int s = begin; s < end; s++) {
                if (s >= o.begin && s < o.end) {
                    return true;
                }
            }
            return false;
        }
    }

    private record Token(String text, int place, boolean good) {
    }

    private record Rule(int amount, List<Token> condition) {
    }

    private static final class Fault extends RuntimeException {
        private static final long serialVersionUID = 1L;
        final int number;
        final int place;

        Fault(int number, int place) {
            this.number = number;
            this.place = place;
        }
    }

    private final List<Integer> tape = new ArrayList<>();
    private final List<Integer> trusts = new ArrayList<>();
    private final List<Fact> facts = new ArrayList<>();
    private List<Rule> rules = new ArrayList<>();
    private int channels = 1;
    private int place = -1;
    private int tuners = 1;
    private int lead = 0;
    private int tail = 0;
    private int room = 2000;
    private int now = 0;
    private List<Member> members = null;
    private boolean[] in = null;
    private int planN = -1;
    private int planTuners;
    private int planRoom;

    int feed(int... words) {
        if (tape.size() + 20 > 2000) {
            return -1;
        }
        for (int word : words) {
            tape.addAll(List.of(word >>> 24, word >>> 16 & 255, word >>> 8 & 255, word & 255));
        }
        return tape.size();
    }

    int back(int n) {
        if (n < 0 || n > tape.size()) {
            return -1;
        }
        tape.subList(tape.size() - n, tape.size()).clear();
        return tape.size();
    }

    int place() {
        return place;
    }

    boolean channels(int n) {
        if (n < 1 || n > 6 || !facts.isEmpty()) {
            return false;
        }
        channels = n;
        return true;
    }

    int source(int trust) {
        if (trust < 1 || trust > 9 || trusts.size() == 6) {
            return -1;
        }
        trusts.add(trust);
        return trusts.size() - 1;
    }

    private int tell(boolean good, Fact fact) {
        if (!good || facts.size() == 300 || fact.channel < 0 || fact.channel >= channels) {
            return -1;
        }
        facts.add(fact);
        return facts.size() - 1;
    }

    int notice(int source, int channel, int a, int b, int title, int episode, boolean live) {
        boolean good = source >= 0 && source < trusts.size() && a >= 0 && a <= (long) b - 1 && b <= 288
            && title >= 0 && title <= 31 && episode >= 0 && episode <= 31;
        return tell(good, new Fact(true, source, channel, a, b, title, episode, live));
    }

    int over(int channel, int t, int d) {
        return tell(t >= 1 && t <= 287 && d >= 1 && d <= 48, new Fact(false, -1, channel, t, d, 0, 0, false));
    }

    boolean recorder(int newTuners, int newLead, int newTail, int newRoom) {
        if (newTuners < 1 || newTuners > 3 || newLead < 0 || newLead > 6 || newTail < 0 || newTail > 6
            || newRoom < 0 || newRoom > 2000) {
            return false;
        }
        tuners = newTuners;
        lead = newLead;
        tail = newTail;
        room = newRoom;
        return true;
    }

    boolean clock(int t) {
        if (t < now || t > 287) {
            return false;
        }
        now = t;
        return true;
    }

    private boolean isKnown(int n) {
        return n >= 0 && n <= facts.size();
    }

    private boolean isSlot(int channel, int t) {
        return channel >= 0 && channel < channels && t >= 0 && t <= 287;
    }

    int says(int source, int channel, int t, int n) {
        if (source < 0 || source >= trusts.size() || !isSlot(channel, t) || !isKnown(n)) {
            return -1;
        }
        int latest = -1;
        for (int i = 0; i < n; i++) {
            Fact f = facts.get(i);
            if (f.isNotice && f.source == source && f.channel == channel && f.a <= t && t < f.b) {
                latest = i;
            }
        }
        return latest;
    }

    /** A channel's row: each over puts one slot more behind t - 1, d times; each push ends at the first gap. */
    private List<Integer> row(int channel, int n) {
        List<Integer> row = new ArrayList<>();
        for (int t = 0; t < 288; t++) {
            int best = -1;
            for (int s = 0; s < trusts.size(); s++) {
                if (says(s, channel, t, n) >= 0 && (best < 0 || trusts.get(s) > trusts.get(best))) {
                    best = s;
                }
            }
            int fact = best < 0 ? -1 : says(best, channel, t, n);
            row.add(fact >= 0 && facts.get(fact).title == 0 ? -1 : fact);
        }
        for (Fact over : facts.subList(0, n)) {
            if (over.isNotice || over.channel != channel || row.get(over.a - 1) < 0
                || !facts.get(row.get(over.a - 1)).live) {
                continue;
            }
            for (int i = 0; i < over.b; i++) {
                row.add(over.a, row.get(over.a - 1));
                int gap = over.a + 1;
                while (gap < 288 && row.get(gap) >= 0) {
                    gap++;
                }
                row.remove(gap);
            }
        }
        return row;
    }

    int sent(int channel, int t, int n) {
        return isSlot(channel, t) && isKnown(n) ? row(channel, n).get(t) : -1;
    }

    private List<Run> runs(int n) {
        List<Run> runs = new ArrayList<>();
        for (int c = 0; c < channels; c++) {
            List<Integer> row = row(c, n);
            for (int t = 0; t < 288; ) {
                int end = t + 1;
                while (end < 288 && row.get(end).equals(row.get(t))) {
                    end++;
                }
                if (row.get(t) >= 0) {
                    Fact f = facts.get(row.get(t));
                    runs.add(new Run(row.get(t), c, t, end, f.title, f.episode));
                }
                t = end;
            }
        }
        runs.sort((x, y) -> x.from != y.from ? x.from - y.from : x.channel - y.channel);
        return runs;
    }

    int showings(int n) {
        return isKnown(n) ? runs(n).size() : -1;
    }

    int showing(int k, int n, int what) {
        if (!isKnown(n) || k < 0) {
            return -1;
        }
        List<Run> runs = runs(n);
        if (k >= runs.size()) {
            return -1;
        }
        Run run = runs.get(k);
        switch (what) {
            case 0: return run.fact;
            case 1: return run.channel;
            case 2: return run.from;
            case 3: return run.until;
            case 4: return run.title;
            case 5: return run.episode;
            case 6: return weight(runs, k);
            case 7: return leastOne(runs, k);
            case 8:
                for (int j = 0; j < runs.size(); j++) {
                    if (j != k && runs.get(j).isDoubted(run)) {
                        return j;
                    }
                }
                return -1;
            default: return -1;
        }
    }

    private static int leastOne(List<Run> runs, int k) {
        for (int j = 0; j < k; j++) {
            if (runs.get(j).isOne(runs.get(k))) {
                return j;
            }
        }
        return k;
    }

    int holds(int rule, int k, int n) {
        if (!isKnown(n) || rule < 0 || rule >= rules.size() || k < 0) {
            return -1;
        }
        List<Run> runs = runs(n);
        return k >= runs.size() ? -1 : isMet(rules.get(rule), runs, k) ? 1 : 0;
    }

    private int weight(List<Run> runs, int k) {
        int most = 0;
        for (Rule rule : rules) {
            if (isMet(rule, runs, k)) {
                if (rule.amount < 0) {
                    return 0;
                }
                most = Math.max(most, rule.amount);
            }
        }
        return most;
    }

    // Conditions are looked at by splitting the tokens at the loosest sign: or, and, a comparison, the last + or -, the last *.
    private boolean isMet(Rule rule, List<Run> runs, int k) {
        return split(rule.condition, "or").stream().anyMatch(all ->
            split(all, "and").stream().allMatch(literal -> literal(literal, runs, k)));
    }

    private static List<List<Token>> split(List<Token> tokens, String at) {
        List<List<Token>> parts = new ArrayList<>();
        parts.add(new ArrayList<>());
        for (Token token : tokens) {
            if (token.text.equals(at)) {
                parts.add(new ArrayList<>());
            } else {
                parts.get(parts.size() - 1).add(token);
            }
        }
        return parts;
    }

    private boolean literal(List<Token> tokens, List<Run> runs, int k) {
        if (tokens.get(0).text.equals("live")) {
            return facts.get(runs.get(k).fact).live;
        }
        if (tokens.get(0).text.equals("first")) {
            return leastOne(runs, k) == k;
        }
        int at = last(tokens, List.of("==", "!=", "<", "<="));
        int left = value(tokens.subList(0, at), runs.get(k));
        int right = value(tokens.subList(at + 1, tokens.size()), runs.get(k));
        switch (tokens.get(at).text) {
            case "==": return left == right;
            case "!=": return left != right;
            case "<": return left < right;
            default: return left <= right;
        }
    }

    private static int last(List<Token> tokens, List<String> signs) {
        int depth = 0;
        for (int i = tokens.size() - 1; i >= 0; i--) {
            String text = tokens.get(i).text;
            depth += text.equals(")") ? 1 : text.equals("(") ? -1 : 0;
            if (depth == 0 && signs.contains(text)) {
                return i;
            }
        }
        return -1;
    }

    private int value(List<Token> tokens, Run run) {
        int at = last(tokens, List.of("+", "-"));
        if (at < 0) {
            at = last(tokens, List.of("*"));
        }
        if (at >= 0) {
            int left = value(tokens.subList(0, at), run);
            int right = value(tokens.subList(at + 1, tokens.size()), run);
            String sign = tokens.get(at).text;
            return sign.equals("+") ? left + right : sign.equals("-") ? left - right : left * right;
        }
        String text = tokens.get(0).text;
        if (text.equals("(")) {
            return value(tokens.subList(1, tokens.size() - 1), run);
        }
        int[] values = {run.title, run.episode, run.channel, run.from, run.until, run.until - run.from,
            trusts.get(facts.get(run.fact).source)};
        return WORDS.contains(text) ? values[WORDS.indexOf(text)] : Integer.parseInt(text);
    }

    int read() {
        List<Rule> read = new ArrayList<>();
        place = -1;
        try {
            new Reader(read).text();
            rules = read;
            return 0;
        } catch (Fault fault) {
            place = fault.place;
            return fault.number;
        } finally {
            tape.clear();
        }
    }

    /** The grammar by recursive descent. */
    private final class Reader {
        private final List<Token> tokens = new ArrayList<>();
        private final List<Rule> read;
        private int at = 0;

        Reader(List<Rule> read) {
            this.read = read;
            StringBuilder text = new StringBuilder();
            tape.forEach(b -> text.append((char) (int) b));
            java.util.regex.Matcher m = java.util.regex.Pattern
                .compile("[\\t\\n\\r ]+|[a-z]+|[0-9]+|==|!=|<=|[;+*<()-]|.", java.util.regex.Pattern.DOTALL).matcher(text);
            while (m.find()) {
                String s = m.group();
                if (!s.matches("[\\t\\n\\r ]+")) {
                    tokens.add(new Token(s, m.start(), s.matches("[a-z]{1,8}|[0-9]{1,4}|==|!=|<=|[;+*<()-]")));
                }
            }
            tokens.add(new Token("", text.length(), false));
        }

        private Token peek() {
            return tokens.get(at);
        }

        private boolean sees(String... texts) {
            return peek().good && Arrays.asList(texts).contains(peek().text);
        }

        private Token need(boolean fits) {
            if (!fits) {
                throw new Fault(1, peek().place);
            }
            if (at == 400) {
                throw new Fault(2, peek().place);
            }
            return tokens.get(at++);
        }

        private boolean seesInt() {
            return peek().good && peek().text.matches("[0-9]+");
        }

        void text() {
            Fault wrong = null;
            while (!peek().text.isEmpty()) {
                if (sees("wish", "never") && read.size() == 20) {
                    throw new Fault(2, peek().place);
                }
                int amount = -1;
                if (need(sees("wish", "never")).text.equals("wish")) {
                    Token token = need(seesInt());
                    amount = Integer.parseInt(token.text);
                    if (wrong == null && (amount == 0 || amount > 1000)) {
                        wrong = new Fault(5, token.place);
                    }
                }
                need(sees("if"));
                int from = at;
                do {
                    literal();
                } while (!sees(";") && need(sees("and", "or")) != null);
                read.add(new Rule(amount, tokens.subList(from, at)));
                need(sees(";"));
            }
            if (wrong != null) {
                throw wrong;
            }
        }

        private void literal() {
            if (sees("live", "first")) {
                need(true);
                return;
            }
            sum(0);
            need(sees("==", "!=", "<", "<="));
            sum(0);
        }

        private void sum(int depth) {
            unit(depth);
            while (sees("+", "-", "*")) {
                need(true);
                unit(depth);
            }
        }

        private void unit(int depth) {
            if (sees("(")) {
                if (depth == 6) {
                    throw new Fault(2, peek().place);
                }
                need(true);
                sum(depth + 1);
                need(sees(")"));
            } else {
                need(seesInt() || (peek().good && WORDS.contains(peek().text)));
            }
        }
    }

    int plan(int n) {
        if (!isKnown(n)) {
            return -1;
        }
        List<Run> runs = runs(n);
        List<Member> next = new ArrayList<>();
        for (int k = 0; k < runs.size(); k++) {
            int weight = weight(runs, k);
            if (weight > 0) {
                Run run = runs.get(k);
                int begin = Math.max(0, run.from - lead);
                boolean underWay = isUnderWay(run);
                next.add(new Member(run, k, weight, begin, Math.min(288, run.until + tail), underWay,
                    underWay || begin >= now));
            }
        }
        if (next.size() > 14) {
            return -2;
        }
        boolean[] best = null;
        for (int bits = 0; bits < 1 << next.size(); bits++) {
            boolean[] set = new boolean[next.size()];
            for (int i = 0; i < set.length; i++) {
                set[i] = (bits >> i & 1) == 1;
            }
            if (isPlan(next, set) && (best == null || isBetter(next, set, best))) {
                best = set;
            }
        }
        members = next;
        in = best;
        planN = n;
        planTuners = tuners;
        planRoom = room;
        return total(next, best)[1];
    }

    private boolean isUnderWay(Run run) {
        for (int i = 0; members != null && i < members.size(); i++) {
            Run old = members.get(i).run;
            if (in[i] && members.get(i).begin < now && old.channel == run.channel && old.title == run.title
                && old.episode == run.episode && old.from == run.from) {
                return true;
            }
        }
        return false;
    }

    private boolean isPlan(List<Member> of, boolean[] set) {
        for (int i = 0; i < set.length; i++) {
            if (set[i] && !of.get(i).allowed) {
                return false;
            }
            for (int j = 0; j < i; j++) {
                if (set[i] && set[j] && of.get(i).run.isOne(of.get(j).run)) {
                    return false;
                }
            }
        }
        return total(of, set)[2] <= room && fullest(of, set) <= tuners;
    }

    private static int fullest(List<Member> of, boolean[] set) {
        int[] slots = new int[288];
        int most = 0;
        for (int i = 0; i < set.length; i++) {
            for (int s = of.get(i).begin; set[i] && s < of.get(i).end; s++) {
                most = Math.max(most, ++slots[s]);
            }
        }
        return most;
    }

    private static int[] total(List<Member> of, boolean[] set) {
        int[] total = new int[3];
        for (int i = 0; i < set.length; i++) {
            if (set[i]) {
                total[0] += of.get(i).underWay ? 1 : 0;
                total[1] += of.get(i).weight;
                total[2] += of.get(i).end - of.get(i).begin;
            }
        }
        return total;
    }

    private static boolean isBetter(List<Member> of, boolean[] set, boolean[] best) {
        int[] x = total(of, set);
        int[] y = total(of, best);
        if (x[0] != y[0]) {
            return x[0] > y[0];
        }
        if (x[1] != y[1]) {
            return x[1] > y[1];
        }
        if (x[2] != y[2]) {
            return x[2] < y[2];
        }
        int differ = Arrays.mismatch(set, best);
        return differ >= 0 && set[differ];
    }

    int candidate(int i, int what) {
        if (members == null || i < 0 || i >= members.size()) {
            return -1;
        }
        switch (what) {
            case 0: return members.get(i).number;
            case 1: return in[i] ? 1 : 0;
            case 2: return why(i);
            case 3: return rival(i);
            case 4: return members.get(i).underWay ? 1 : 0;
            default: return -1;
        }
    }

    private int why(int i) {
        Member out = members.get(i);
        if (in[i]) {
            return 0;
        }
        if (!out.allowed) {
            return 1;
        }
        if (memberOne(i) >= 0) {
            return 2;
        }
        boolean[] with = in.clone();
        with[i] = true;
        if (fullest(members, with) > planTuners) {
            return 3;
        }
        return total(members, with)[2] > planRoom ? 4 : 5;
    }

    private int memberOne(int i) {
        for (int j = 0; j < in.length; j++) {
            if (in[j] && members.get(j).run.isOne(members.get(i).run)) {
                return j;
            }
        }
        return -1;
    }

    private int rival(int i) {
        int why = why(i);
        if (why == 2) {
            return memberOne(i);
        }
        int least = -1;
        for (int j = 0; why == 3 && j < in.length; j++) {
            if (in[j] && members.get(j).meets(members.get(i))
                && (least < 0 || members.get(j).weight < members.get(least).weight)) {
                least = j;
            }
        }
        return least;
    }

    int count(int what) {
        switch (what) {
            case 0: return channels;
            case 1: return trusts.size();
            case 2: return facts.size();
            case 3: return rules.size();
            case 4: return now;
            case 5: return members == null ? -1 : members.size();
            case 6: return members == null ? -1 : countIn();
            case 7: return members == null ? -1 : total(members, in)[2];
            case 8: return planN;
            case 9: return tape.size();
            default: return -1;
        }
    }

    private int countIn() {
        int count = 0;
        for (boolean b : in) {
            count += b ? 1 : 0;
        }
        return count;
    }
}
