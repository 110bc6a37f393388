import java.util.Arrays;

/** A guide of what is sent, put together from quarrelling sources, and a recorder that plans by wishes. */
public final class GuideDesk {
    public static final int NONE = -1;

    private static final int FULL = -2;

    private static final int SLOTS = 288;
    private static final int MOST_CHANNELS = 6;
    private static final int MOST_SOURCES = 6;
    private static final int MOST_TRUST = 9;
    private static final int MOST_FACTS = 300;
    private static final int MOST_TITLE = 31;
    private static final int MOST_EPISODE = 31;
    private static final int MARKS = (MOST_TITLE + 1) * (MOST_EPISODE + 1);
    private static final int MOST_OVER = 48;
    // Only the two ends of a notice can part showings, and an over parts none.
    private static final int MOST_SHOWINGS = 2 * MOST_FACTS;

    private static final int MOST_BYTES = 2000;
    private static final int BYTES_A_FEED = 20;
    private static final int MOST_LETTERS = 8;
    private static final int MOST_DIGITS = 4;
    private static final int MOST_TOKENS = 400;
    private static final int MOST_RULES = 20;
    private static final int MOST_OPEN = 6;
    private static final int MOST_AMOUNT = 1000;
    // or, and, a comparison; in each of seven levels a sum and a product; six signs that open.
    private static final int MOST_WAITING = 3 + 2 * (MOST_OPEN + 1) + MOST_OPEN;

    private static final int SYNTAX = 1;
    private static final int ROOM = 2;
    private static final int WRONG = 5;

    private static final int MOST_TUNERS = 3;
    private static final int MOST_MARGIN = 6;
    private static final int MOST_ROOM = 2000;
    private static final int MOST_CANDIDATES = 14;

    private static final int IS_IN = 0;
    private static final int BEGAN = 1;
    private static final int IS_ONE = 2;
    private static final int CROWDED = 3;
    private static final int NO_ROOM = 4;
    private static final int NO_REASON = 5;

    // The kinds of tokens: variables, comparisons and arithmetic stand side by side, to be told by their bounds.
    private static final int NO_TOKEN = 0;
    private static final int INT = 1;
    private static final int TITLE = 2;
    private static final int EPISODE = 3;
    private static final int CHANNEL = 4;
    private static final int FROM = 5;
    private static final int UNTIL = 6;
    private static final int LENGTH = 7;
    private static final int TRUST = 8;
    private static final int LIVE = 9;
    private static final int FIRST = 10;
    private static final int OR = 11;
    private static final int AND = 12;
    private static final int EQUAL = 13;
    private static final int UNEQUAL = 14;
    private static final int LESS = 15;
    private static final int AT_MOST = 16;
    private static final int PLUS = 17;
    private static final int MINUS = 18;
    private static final int TIMES = 19;
    private static final int OPEN = 20;
    private static final int CLOSE = 21;
    private static final int STOP = 22;
    private static final int WISH = 23;
    private static final int NEVER = 24;
    private static final int IF = 25;

    private final Ledger ledger;
    private final Day day;
    private final Tape tape;
    private final WishReader reader;
    private final Recorder settings;
    private Wishes wishes;
    private Wishes spareWishes;
    private Plan atHand;
    private Plan sparePlan;

    public GuideDesk() {
        ledger = new Ledger();
        day = new Day();
        tape = new Tape();
        reader = new WishReader();
        settings = new Recorder();
        wishes = new Wishes();
        spareWishes = new Wishes();
        atHand = new Plan();
        sparePlan = new Plan();
    }

    public int feed(int a, int b, int c, int d, int e) {
        if (tape.size > MOST_BYTES - BYTES_A_FEED) {
            return NONE;
        }
        tape.append(a);
        tape.append(b);
        tape.append(c);
        tape.append(d);
        tape.append(e);
        return tape.size;
    }

    public int back(int n) {
        if (n < 0 || n > tape.size) {
            return NONE;
        }
        tape.size -= n;
        return tape.size;
    }

    public int read() {
        reader.compile(tape, spareWishes);
        tape.size = 0;
        if (reader.fault == 0) {
            Wishes ahead = wishes;
            wishes = spareWishes;
            spareWishes = ahead;
        }
        return reader.fault;
    }

    public int place() {
        return reader.faultPlace;
    }

    public boolean channels(int n) {
        if (n < 1 || n > MOST_CHANNELS || ledger.told > 0) {
            return false;
        }
        ledger.channels = n;
        return true;
    }

    public int source(int trust) {
        if (trust < 1 || trust > MOST_TRUST) {
            return NONE;
        }
        return ledger.addSource(trust);
    }

    public int notice(int source, int channel, int a, int b, int title, int episode, boolean live) {
        Source speaker = ledger.sourceAt(source);
        if (speaker == null || !ledger.hasChannel(channel)) {
            return NONE;
        }
        if (a < 0 || a >= b || b > SLOTS) {
            return NONE;
        }
        if (title < 0 || title > MOST_TITLE || episode < 0 || episode > MOST_EPISODE) {
            return NONE;
        }
        if (ledger.told >= MOST_FACTS) {
            return NONE;
        }
        return ledger.tell(new Fact(speaker, channel, a, b, title, episode, live));
    }

    public int over(int channel, int t, int d) {
        if (!ledger.hasChannel(channel) || t < 1 || t >= SLOTS || d < 1 || d > MOST_OVER) {
            return NONE;
        }
        if (ledger.told >= MOST_FACTS) {
            return NONE;
        }
        return ledger.tell(new Fact(null, channel, t, t + d, 0, 0, false));
    }

    public boolean recorder(int tuners, int lead, int tail, int room) {
        if (tuners < 1 || tuners > MOST_TUNERS || room < 0 || room > MOST_ROOM) {
            return false;
        }
        if (lead < 0 || lead > MOST_MARGIN || tail < 0 || tail > MOST_MARGIN) {
            return false;
        }
        settings.tuners = tuners;
        settings.lead = lead;
        settings.tail = tail;
        settings.room = room;
        return true;
    }

    public boolean clock(int t) {
        if (t < settings.now || t >= SLOTS) {
            return false;
        }
        settings.now = t;
        return true;
    }

    public int sent(int channel, int t, int n) {
        if (!ledger.hasChannel(channel) || t < 0 || t >= SLOTS || !ledger.isKnown(n)) {
            return NONE;
        }
        day.survey(ledger, n);
        return day.factAt(channel, t);
    }

    public int says(int source, int channel, int t, int n) {
        Source speaker = ledger.sourceAt(source);
        if (speaker == null || !ledger.hasChannel(channel) || t < 0 || t >= SLOTS || !ledger.isKnown(n)) {
            return NONE;
        }
        return ledger.latestWord(speaker, channel, t, n);
    }

    public int showing(int k, int n, int what) {
        Showing showing = findShowing(k, n);
        if (showing == null) {
            return NONE;
        }
        switch (what) {
            case 0: return showing.fact;
            case 1: return showing.channel;
            case 2: return showing.from;
            case 3: return showing.until;
            case 4: return showing.title;
            case 5: return showing.episode;
            case 6: return wishes.weigh(showing);
            case 7: return showing.leastOne;
            case 8: return day.firstDoubted(showing);
            default: return NONE;
        }
    }

    public int showings(int n) {
        if (!ledger.isKnown(n)) {
            return NONE;
        }
        day.survey(ledger, n);
        return day.size;
    }

    public int holds(int rule, int k, int n) {
        Showing showing = findShowing(k, n);
        if (showing == null || rule < 0 || rule >= wishes.rules) {
            return NONE;
        }
        return wishes.isMet(rule, showing) ? 1 : 0;
    }

    public int plan(int n) {
        if (!ledger.isKnown(n)) {
            return NONE;
        }
        day.survey(ledger, n);
        if (!sparePlan.gather(day, wishes, settings)) {
            return FULL;
        }
        sparePlan.prepare(atHand, settings.now);
        settings.choose(sparePlan);
        sparePlan.explain(settings);
        Plan ahead = atHand;
        atHand = sparePlan;
        sparePlan = ahead;
        return atHand.weight;
    }

    public int candidate(int i, int what) {
        Candidate candidate = atHand.at(i);
        if (candidate == null) {
            return NONE;
        }
        switch (what) {
            case 0: return candidate.showing;
            case 1: return candidate.isIn ? 1 : 0;
            case 2: return candidate.why;
            case 3: return candidate.rival;
            case 4: return candidate.underWay ? 1 : 0;
            default: return NONE;
        }
    }

    public int count(int what) {
        switch (what) {
            case 0: return ledger.channels;
            case 1: return ledger.sourceCount;
            case 2: return ledger.told;
            case 3: return wishes.rules;
            case 4: return settings.now;
            case 9: return tape.size;
            default: return atHand.knownBy == NONE ? NONE : countInPlan(what);
        }
    }

    private int countInPlan(int what) {
        switch (what) {
            case 5: return atHand.size;
            case 6: return atHand.members;
            case 7: return atHand.spans;
            case 8: return atHand.knownBy;
            default: return NONE;
        }
    }

    private Showing findShowing(int k, int n) {
        if (!ledger.isKnown(n)) {
            return null;
        }
        day.survey(ledger, n);
        return day.at(k);
    }

    private static final class Source {
        final int number;
        final int trust;

        Source(int number, int trust) {
            this.number = number;
            this.trust = trust;
        }

        boolean outranks(Source other) {
            if (trust != other.trust) {
                return trust > other.trust;
            }
            return number < other.number;
        }
    }

    /** A notice of a source, or, without a source, an over from its slot on. */
    private static final class Fact {
        final Source source;
        final int channel;
        final int from;
        final int until;
        final int title;
        final int episode;
        final boolean live;

        Fact(Source source, int channel, int from, int until, int title, int episode, boolean live) {
            this.source = source;
            this.channel = channel;
            this.from = from;
            this.until = until;
            this.title = title;
            this.episode = episode;
            this.live = live;
        }

        boolean isNotice() {
            return source != null;
        }

        boolean isWordOf(Source speaker) {
            return source != null && source.number == speaker.number;
        }

        boolean hasSlot(int ofChannel, int slot) {
            return channel == ofChannel && from <= slot && slot < until;
        }

        int trust() {
            return source == null ? 0 : source.trust;
        }
    }

    /** All that was told, in order. */
    private static final class Ledger {
        int channels = 1;
        int sourceCount = 0;
        int told = 0;
        private final Source[] sources = new Source[MOST_SOURCES];
        // The same sources, the one that every other outranks first.
        private final Source[] ranked = new Source[MOST_SOURCES];
        private final Fact[] facts = new Fact[MOST_FACTS];

        boolean hasChannel(int channel) {
            return channel >= 0 && channel < channels;
        }

        boolean isKnown(int n) {
            return n >= 0 && n <= told;
        }

        Source sourceAt(int number) {
            return number >= 0 && number < sourceCount && number < sources.length ? sources[number] : null;
        }

        Source rankedAt(int rank) {
            return rank >= 0 && rank < sourceCount && rank < ranked.length ? ranked[rank] : null;
        }

        Fact factAt(int number) {
            return number >= 0 && number < told && number < facts.length ? facts[number] : null;
        }

        int addSource(int trust) {
            if (sourceCount >= sources.length || sourceCount >= ranked.length) {
                return NONE;
            }
            Source added = new Source(sourceCount, trust);
            sources[sourceCount] = added;
            int rank = sourceCount;
            while (rank > 0 && ranked[rank - 1] != null && ranked[rank - 1].outranks(added)) {
                ranked[rank] = ranked[rank - 1];
                rank--;
            }
            ranked[rank] = added;
            sourceCount++;
            return added.number;
        }

        int tell(Fact fact) {
            if (told >= facts.length) {
                return NONE;
            }
            facts[told] = fact;
            told++;
            return told - 1;
        }

        int latestWord(Source speaker, int channel, int slot, int n) {
            for (int i = n - 1; i >= 0; i--) {
                Fact fact = factAt(i);
                if (fact != null && fact.isWordOf(speaker) && fact.hasSlot(channel, slot)) {
                    return i;
                }
            }
            return NONE;
        }
    }

    /** A run of slots with one notice; the day makes it once and fills it again for each survey. */
    private static final class Showing {
        int number;
        int fact;
        int channel;
        int from;
        int until;
        int title;
        int episode;
        int trust;
        boolean live;
        int leastOne;

        void fill(int itsNumber, int itsFact, Fact notice, int itsFrom, int itsUntil) {
            number = itsNumber;
            fact = itsFact;
            from = itsFrom;
            until = itsUntil;
            channel = notice.channel;
            title = notice.title;
            episode = notice.episode;
            trust = notice.trust();
            live = notice.live;
        }

        boolean isDoubtedWith(Showing other) {
            return title == other.title && (episode == 0 || other.episode == 0);
        }
    }

    /** The rows of the channels and their showings, as known by so many facts. */
    private static final class Day {
        int size = 0;
        int knownBy = NONE;
        private int width = 0;
        private final int[][] rows = new int[MOST_CHANNELS][SLOTS];
        private final int[] stood = new int[SLOTS];
        private final Showing[] showings = new Showing[MOST_SHOWINGS];
        private final int[] leastByMark = new int[MARKS];

        /** What the first n facts tell never changes, so the survey at hand is kept while n is the same. */
        void survey(Ledger ledger, int n) {
            if (n == knownBy && ledger.channels == width) {
                return;
            }
            knownBy = n;
            width = Math.min(ledger.channels, rows.length);
            for (int channel = 0; channel < width; channel++) {
                Arrays.fill(rows[channel], NONE);
            }
            layNotices(ledger);
            pushByOvers(ledger);
            collectShowings(ledger);
        }

        int factAt(int channel, int slot) {
            if (channel < 0 || channel >= width || slot < 0 || slot >= SLOTS) {
                return NONE;
            }
            return rows[channel][slot];
        }

        Showing at(int k) {
            return k >= 0 && k < size && k < showings.length ? showings[k] : null;
        }

        int firstDoubted(Showing showing) {
            for (int k = 0; k < size; k++) {
                Showing other = at(k);
                if (other != null && k != showing.number && showing.isDoubtedWith(other)) {
                    return k;
                }
            }
            return NONE;
        }

        // What a better source says covers what was laid before it, and so does a later word of the same source.
        private void layNotices(Ledger ledger) {
            for (int rank = 0; rank < ledger.sourceCount; rank++) {
                Source source = ledger.rankedAt(rank);
                for (int i = 0; i < knownBy && source != null; i++) {
                    Fact fact = ledger.factAt(i);
                    if (fact != null && fact.isWordOf(source) && fact.channel >= 0 && fact.channel < width) {
                        layNotice(rows[fact.channel], fact, fact.title == 0 ? NONE : i);
                    }
                }
            }
        }

        private static void layNotice(int[] row, Fact notice, int number) {
            int until = Math.min(notice.until, row.length);
            for (int slot = Math.max(notice.from, 0); slot < until; slot++) {
                row[slot] = number;
            }
        }

        private void pushByOvers(Ledger ledger) {
            for (int i = 0; i < knownBy; i++) {
                Fact fact = ledger.factAt(i);
                if (fact != null && !fact.isNotice() && fact.channel >= 0 && fact.channel < width) {
                    pushByOver(ledger, rows[fact.channel], fact);
                }
            }
        }

        private void pushByOver(Ledger ledger, int[] row, Fact over) {
            int first = over.from;
            if (first < 1 || first >= SLOTS || row.length != SLOTS) {
                return;
            }
            int running = row[first - 1];
            Fact notice = ledger.factAt(running);
            if (notice == null || !notice.live) {
                return;
            }
            System.arraycopy(row, 0, stood, 0, SLOTS);
            int until = Math.min(over.until, SLOTS);
            for (int slot = first; slot < until; slot++) {
                row[slot] = running;
            }
            int later = over.until - first;
            for (int slot = first; slot < SLOTS && later > 0; slot++) {
                if (stood[slot] == NONE) {
                    later--;
                } else if (slot + later < SLOTS) {
                    row[slot + later] = stood[slot];
                }
            }
        }

        private void collectShowings(Ledger ledger) {
            size = 0;
            Arrays.fill(leastByMark, NONE);
            for (int slot = 0; slot < SLOTS; slot++) {
                for (int channel = 0; channel < width; channel++) {
                    int fact = rows[channel][slot];
                    if (fact != NONE && (slot == 0 || rows[channel][slot - 1] != fact)) {
                        addShowing(fact, ledger.factAt(fact), slot, endOfRun(rows[channel], slot));
                    }
                }
            }
        }

        private static int endOfRun(int[] row, int from) {
            for (int slot = from + 1; slot < row.length; slot++) {
                if (row[slot] != row[from]) {
                    return slot;
                }
            }
            return row.length;
        }

        private void addShowing(int fact, Fact notice, int from, int until) {
            if (notice == null || size >= showings.length) {
                return;
            }
            if (showings[size] == null) {
                showings[size] = new Showing();
            }
            Showing showing = showings[size];
            showing.fill(size, fact, notice, from, until);
            showing.leastOne = leastOneOf(showing);
            size++;
        }

        private int leastOneOf(Showing showing) {
            int mark = showing.title * (MOST_EPISODE + 1) + showing.episode;
            if (showing.episode == 0 || mark < 0 || mark >= leastByMark.length) {
                return showing.number;
            }
            if (leastByMark[mark] == NONE) {
                leastByMark[mark] = showing.number;
            }
            return leastByMark[mark];
        }
    }

    /** The bytes of a text of wishes, and the token that was last found among them. */
    private static final class Tape {
        int size = 0;
        int kind = NO_TOKEN;
        int number = 0;
        int begin = 0;
        private int end = 0;
        private final byte[] bytes = new byte[MOST_BYTES];

        void append(int word) {
            for (int shift = 24; shift >= 0 && size < bytes.length; shift -= 8) {
                bytes[size] = (byte) (word >> shift);
                size++;
            }
        }

        void rewind() {
            end = 0;
        }

        /** Goes to the next token, or what is none; false at the text's end. */
        boolean advance() {
            begin = end;
            while (begin < size && isBlank(byteAt(begin))) {
                begin++;
            }
            if (begin >= size) {
                return false;
            }
            int first = byteAt(begin);
            if (isLetter(first)) {
                scanWord();
            } else if (isDigit(first)) {
                scanInt();
            } else {
                scanSign(first);
            }
            return true;
        }

        private void scanWord() {
            end = begin + 1;
            while (end < size && isLetter(byteAt(end))) {
                end++;
            }
            kind = end - begin > MOST_LETTERS ? NO_TOKEN : kindOfWord();
        }

        private void scanInt() {
            number = 0;
            end = begin;
            while (end < size && isDigit(byteAt(end))) {
                number = number * 10 + byteAt(end) - '0';
                end++;
            }
            kind = end - begin > MOST_DIGITS ? NO_TOKEN : INT;
        }

        private void scanSign(int first) {
            boolean isBeforeEqual = byteAt(begin + 1) == '=';
            kind = isBeforeEqual ? kindOfPair(first) : NO_TOKEN;
            end = begin + 2;
            if (kind == NO_TOKEN) {
                kind = kindOfSign(first);
                end = begin + 1;
            }
        }

        private int byteAt(int place) {
            return place >= 0 && place < size && place < bytes.length ? bytes[place] : 0;
        }

        private static boolean isBlank(int b) {
            return b == 9 || b == 10 || b == 13 || b == 32;
        }

        private static boolean isLetter(int b) {
            return b >= 'a' && b <= 'z';
        }

        private static boolean isDigit(int b) {
            return b >= '0' && b <= '9';
        }

        private static int kindOfPair(int first) {
            switch (first) {
                case '=': return EQUAL;
                case '!': return UNEQUAL;
                case '<': return AT_MOST;
                default: return NO_TOKEN;
            }
        }

        private static int kindOfSign(int sign) {
            switch (sign) {
                case ';': return STOP;
                case '+': return PLUS;
                case '-': return MINUS;
                case '*': return TIMES;
                case '<': return LESS;
                case '(': return OPEN;
                case ')': return CLOSE;
                default: return NO_TOKEN;
            }
        }

        private int kindOfWord() {
            if (spells("wish")) return WISH;
            if (spells("never")) return NEVER;
            if (spells("if")) return IF;
            if (spells("or")) return OR;
            if (spells("and")) return AND;
            if (spells("live")) return LIVE;
            if (spells("first")) return FIRST;
            if (spells("title")) return TITLE;
            if (spells("episode")) return EPISODE;
            if (spells("channel")) return CHANNEL;
            if (spells("from")) return FROM;
            if (spells("until")) return UNTIL;
            if (spells("length")) return LENGTH;
            if (spells("trust")) return TRUST;
            // No rule has any other word, so it is as good as no token.
            return NO_TOKEN;
        }

        private boolean spells(String word) {
            if (word.length() != end - begin) {
                return false;
            }
            for (int i = 0; i < word.length(); i++) {
                if (byteAt(begin + i) != word.charAt(i)) {
                    return false;
                }
            }
            return true;
        }
    }

    /** Reads a tape token by token; operators wait until what they bind has been written to the draft. */
    private static final class WishReader {
        private static final int AT_RULE = 0;
        private static final int AT_AMOUNT = 1;
        private static final int AT_IF = 2;
        private static final int AT_LITERAL = 3;
        private static final int AT_OPERAND = 4;
        private static final int BEHIND_LITERAL = 5;
        private static final int BEHIND_OPERAND = 6;

        int fault = 0;
        int faultPlace = NONE;
        private int wrongPlace = NONE;
        private int state = AT_RULE;
        private int tokens = 0;
        private int depth = 0;
        private boolean isCompared = false;
        private int amount = 0;
        private int waitingCount = 0;
        private final int[] waiting = new int[MOST_WAITING];

        void compile(Tape tape, Wishes draft) {
            startOver();
            draft.clear();
            tape.rewind();
            for (int i = 0; i < MOST_BYTES && fault == 0 && tape.advance(); i++) {
                accept(tape, draft);
            }
            if (fault == 0 && state != AT_RULE) {
                fail(SYNTAX, tape.size);
            }
            if (fault == 0 && wrongPlace != NONE) {
                fail(WRONG, wrongPlace);
            }
        }

        private void startOver() {
            fault = 0;
            faultPlace = NONE;
            wrongPlace = NONE;
            state = AT_RULE;
            tokens = 0;
            depth = 0;
            isCompared = false;
            waitingCount = 0;
        }

        private void fail(int number, int where) {
            fault = number;
            faultPlace = where;
        }

        private void accept(Tape tape, Wishes draft) {
            if (!goesOnWith(tape.kind)) {
                fail(SYNTAX, tape.begin);
            } else if (isTooMuch(tape.kind, draft)) {
                fail(ROOM, tape.begin);
            } else {
                tokens++;
                take(tape, draft);
            }
        }

        private boolean goesOnWith(int kind) {
            switch (state) {
                case AT_RULE: return kind == WISH || kind == NEVER;
                case AT_AMOUNT: return kind == INT;
                case AT_IF: return kind == IF;
                case AT_LITERAL: return kind == LIVE || kind == FIRST || beginsOperand(kind);
                case AT_OPERAND: return beginsOperand(kind);
                case BEHIND_LITERAL: return followsLiteral(kind);
                default: return followsOperand(kind);
            }
        }

        private static boolean beginsOperand(int kind) {
            return kind == INT || kind == OPEN || (kind >= TITLE && kind <= TRUST);
        }

        private static boolean followsLiteral(int kind) {
            return kind == AND || kind == OR || kind == STOP;
        }

        private boolean followsOperand(int kind) {
            if (isArithmetic(kind)) {
                return true;
            }
            if (depth > 0) {
                return kind == CLOSE;
            }
            return isCompared ? followsLiteral(kind) : isComparison(kind);
        }

        private static boolean isArithmetic(int kind) {
            return kind >= PLUS && kind <= TIMES;
        }

        private static boolean isComparison(int kind) {
            return kind >= EQUAL && kind <= AT_MOST;
        }

        private boolean isTooMuch(int kind, Wishes draft) {
            return tokens >= MOST_TOKENS
                    || (state == AT_RULE && draft.rules >= MOST_RULES)
                    || (kind == OPEN && depth >= MOST_OPEN);
        }

        private void take(Tape tape, Wishes draft) {
            switch (state) {
                case AT_RULE:
                    amount = 0;
                    state = tape.kind == WISH ? AT_AMOUNT : AT_IF;
                    break;
                case AT_AMOUNT:
                    takeAmount(tape);
                    break;
                case AT_IF:
                    state = AT_LITERAL;
                    break;
                case AT_LITERAL:
                case AT_OPERAND:
                    takeOperand(tape, draft);
                    break;
                default:
                    takeOperator(tape.kind, draft);
                    break;
            }
        }

        private void takeAmount(Tape tape) {
            amount = tape.number;
            if (wrongPlace == NONE && (amount < 1 || amount > MOST_AMOUNT)) {
                wrongPlace = tape.begin;
            }
            state = AT_IF;
        }

        private void takeOperand(Tape tape, Wishes draft) {
            if (tape.kind == OPEN) {
                putOff(OPEN);
                depth++;
                state = AT_OPERAND;
                return;
            }
            draft.write(tape.kind == INT ? tape.number : -tape.kind);
            state = tape.kind == LIVE || tape.kind == FIRST ? BEHIND_LITERAL : BEHIND_OPERAND;
        }

        private void takeOperator(int kind, Wishes draft) {
            writeTighter(kind, draft);
            if (kind == CLOSE) {
                // What still waits on top is the sign that opened.
                waitingCount = Math.max(waitingCount - 1, 0);
                depth--;
            } else if (kind == STOP) {
                draft.endRule(amount);
                isCompared = false;
                state = AT_RULE;
            } else {
                putOff(kind);
                isCompared = isComparison(kind) || (isCompared && isArithmetic(kind));
                state = kind == AND || kind == OR ? AT_LITERAL : AT_OPERAND;
            }
        }

        private void putOff(int kind) {
            if (waitingCount < waiting.length) {
                waiting[waitingCount] = kind;
                waitingCount++;
            }
        }

        private void writeTighter(int kind, Wishes draft) {
            while (waitingCount > 0 && tightness(waiting[waitingCount - 1]) >= tightness(kind)) {
                waitingCount--;
                draft.write(-waiting[waitingCount]);
            }
        }

        private static int tightness(int kind) {
            switch (kind) {
                case OPEN: return 0;
                case CLOSE:
                case STOP: return 1;
                case OR: return 2;
                case AND: return 3;
                case PLUS:
                case MINUS: return 5;
                case TIMES: return 6;
                default: return 4;
            }
        }
    }

    /** Rules behind one another: an int stands for itself, a negative one for a kind of token, operands first. */
    private static final class Wishes {
        int rules = 0;
        private int length = 0;
        private final int[] code = new int[MOST_TOKENS];
        private final int[] ends = new int[MOST_RULES];
        // 0 for a never: no wish in place has that amount.
        private final int[] amounts = new int[MOST_RULES];
        private final int[] stack = new int[MOST_WAITING + 1];

        void clear() {
            rules = 0;
            length = 0;
        }

        void write(int word) {
            if (length < code.length) {
                code[length] = word;
                length++;
            }
        }

        void endRule(int amount) {
            if (rules < ends.length && rules < amounts.length) {
                ends[rules] = length;
                amounts[rules] = amount;
                rules++;
            }
        }

        int weigh(Showing showing) {
            int weight = 0;
            for (int rule = 0; rule < rules && rule < amounts.length; rule++) {
                boolean isNever = amounts[rule] == 0;
                if ((isNever || amounts[rule] > weight) && isMet(rule, showing)) {
                    if (isNever) {
                        return 0;
                    }
                    weight = amounts[rule];
                }
            }
            return weight;
        }

        boolean isMet(int rule, Showing showing) {
            if (rule < 0 || rule >= rules || rule >= ends.length) {
                return false;
            }
            int top = 0;
            int end = Math.min(ends[rule], code.length);
            for (int i = rule == 0 ? 0 : Math.max(ends[rule - 1], 0); i < end; i++) {
                int word = code[i];
                if (word <= -OR) {
                    if (top < 2) {
                        return false;
                    }
                    top--;
                    stack[top - 1] = join(-word, stack[top - 1], stack[top]);
                } else {
                    if (top >= stack.length) {
                        return false;
                    }
                    stack[top] = word >= 0 ? word : valueOf(-word, showing);
                    top++;
                }
            }
            return top == 1 && stack[0] != 0;
        }

        private static int valueOf(int kind, Showing showing) {
            switch (kind) {
                case TITLE: return showing.title;
                case EPISODE: return showing.episode;
                case CHANNEL: return showing.channel;
                case FROM: return showing.from;
                case UNTIL: return showing.until;
                case LENGTH: return showing.until - showing.from;
                case TRUST: return showing.trust;
                case LIVE: return showing.live ? 1 : 0;
                default: return showing.leastOne == showing.number ? 1 : 0;
            }
        }

        private static int join(int kind, int left, int right) {
            switch (kind) {
                case OR: return left | right;
                case AND: return left & right;
                case EQUAL: return left == right ? 1 : 0;
                case UNEQUAL: return left != right ? 1 : 0;
                case LESS: return left < right ? 1 : 0;
                case AT_MOST: return left <= right ? 1 : 0;
                case PLUS: return left + right;
                case MINUS: return left - right;
                default: return left * right;
            }
        }
    }

    /** A showing with a weight, as it was when its plan was made. */
    private static final class Candidate {
        int showing;
        int channel;
        int title;
        int episode;
        int from;
        int leastOne;
        int weight;
        int spanFrom;
        int spanUntil;
        boolean underWay;
        boolean mayBeIn;
        boolean isIn;
        int why;
        int rival;
        // Earlier candidates, a bit each: those that are on at this span's first slot, and those that are one with it.
        int earlierOn;
        int earlierOnes;
        // What this one and all behind it could bring at the most.
        int underWayAhead;
        int weightAhead;

        void fill(Showing of, int itsWeight, Recorder settings) {
            showing = of.number;
            channel = of.channel;
            title = of.title;
            episode = of.episode;
            from = of.from;
            leastOne = of.leastOne;
            weight = itsWeight;
            spanFrom = Math.max(of.from - settings.lead, 0);
            spanUntil = Math.min(of.until + settings.tail, SLOTS);
        }

        int span() {
            return spanUntil - spanFrom;
        }

        boolean spansSlot(int slot) {
            return spanFrom <= slot && slot < spanUntil;
        }

        boolean meets(Candidate other) {
            return spanFrom < other.spanUntil && other.spanFrom < spanUntil;
        }

        boolean isOneWith(Candidate other) {
            return leastOne == other.leastOne;
        }

        boolean isSameAs(Candidate other) {
            return channel == other.channel && title == other.title
                    && episode == other.episode && from == other.from;
        }
    }

    /** Candidates, and which of them are in; without a plan it is known by NONE. */
    private static final class Plan {
        int size = 0;
        int knownBy = NONE;
        int members = 0;
        int weight = 0;
        int spans = 0;
        private final Candidate[] candidates = new Candidate[MOST_CANDIDATES];

        Candidate at(int i) {
            return i >= 0 && i < size && i < candidates.length ? candidates[i] : null;
        }

        /** False if there are more candidates than a plan may have. */
        boolean gather(Day day, Wishes wishes, Recorder settings) {
            size = 0;
            knownBy = day.knownBy;
            for (int k = 0; k < day.size; k++) {
                Showing showing = day.at(k);
                int itsWeight = showing == null ? 0 : wishes.weigh(showing);
                if (itsWeight > 0) {
                    if (size >= candidates.length) {
                        return false;
                    }
                    if (candidates[size] == null) {
                        candidates[size] = new Candidate();
                    }
                    candidates[size].fill(showing, itsWeight, settings);
                    size++;
                }
            }
            return true;
        }

        void prepare(Plan ahead, int now) {
            int underWayAhead = 0;
            int weightAhead = 0;
            for (int i = size - 1; i >= 0; i--) {
                Candidate candidate = at(i);
                if (candidate != null) {
                    candidate.underWay = ahead.hasUnderWay(candidate, now);
                    candidate.mayBeIn = candidate.underWay || candidate.spanFrom >= now;
                    underWayAhead += candidate.underWay ? 1 : 0;
                    weightAhead += candidate.mayBeIn ? candidate.weight : 0;
                    candidate.underWayAhead = underWayAhead;
                    candidate.weightAhead = weightAhead;
                    markEarlier(candidate, i);
                }
            }
        }

        private boolean hasUnderWay(Candidate candidate, int now) {
            for (int i = 0; i < size; i++) {
                Candidate member = at(i);
                if (member != null && member.isIn && member.spanFrom < now && member.isSameAs(candidate)) {
                    return true;
                }
            }
            return false;
        }

        // Showings are numbered by their first slots, so no earlier candidate's span begins behind this one's.
        private void markEarlier(Candidate candidate, int i) {
            candidate.earlierOn = 0;
            candidate.earlierOnes = 0;
            for (int j = 0; j < i; j++) {
                Candidate earlier = at(j);
                if (earlier != null && earlier.spansSlot(candidate.spanFrom)) {
                    candidate.earlierOn |= 1 << j;
                }
                if (earlier != null && earlier.isOneWith(candidate)) {
                    candidate.earlierOnes |= 1 << j;
                }
            }
        }

        void settle(int chosen) {
            members = 0;
            weight = 0;
            spans = 0;
            for (int i = 0; i < size; i++) {
                Candidate candidate = at(i);
                if (candidate != null) {
                    candidate.isIn = (chosen >> i & 1) == 1;
                    members += candidate.isIn ? 1 : 0;
                    weight += candidate.isIn ? candidate.weight : 0;
                    spans += candidate.isIn ? candidate.span() : 0;
                }
            }
        }

        void explain(Recorder settings) {
            for (int i = 0; i < size; i++) {
                Candidate candidate = at(i);
                if (candidate != null) {
                    candidate.why = whyNot(candidate, settings);
                    candidate.rival = rivalOf(candidate);
                }
            }
        }

        private int whyNot(Candidate candidate, Recorder settings) {
            if (candidate.isIn) {
                return IS_IN;
            }
            if (!candidate.mayBeIn) {
                return BEGAN;
            }
            if (memberOneWith(candidate) != NONE) {
                return IS_ONE;
            }
            if (isCrowdedWith(candidate, settings.tuners)) {
                return CROWDED;
            }
            return spans + candidate.span() > settings.room ? NO_ROOM : NO_REASON;
        }

        private int rivalOf(Candidate candidate) {
            switch (candidate.why) {
                case IS_ONE: return memberOneWith(candidate);
                case CROWDED: return lightestMemberMeeting(candidate);
                default: return NONE;
            }
        }

        private int memberOneWith(Candidate candidate) {
            for (int i = 0; i < size; i++) {
                Candidate member = at(i);
                if (member != null && member.isIn && member.isOneWith(candidate)) {
                    return i;
                }
            }
            return NONE;
        }

        // A slot can be the fullest only where a span begins, so just those slots are counted.
        private boolean isCrowdedWith(Candidate candidate, int tuners) {
            if (membersOn(candidate.spanFrom) >= tuners) {
                return true;
            }
            for (int i = 0; i < size; i++) {
                Candidate member = at(i);
                if (member != null && member.isIn && candidate.spansSlot(member.spanFrom)
                        && membersOn(member.spanFrom) >= tuners) {
                    return true;
                }
            }
            return false;
        }

        private int membersOn(int slot) {
            int on = 0;
            for (int i = 0; i < size; i++) {
                Candidate member = at(i);
                if (member != null && member.isIn && member.spansSlot(slot)) {
                    on++;
                }
            }
            return on;
        }

        private int lightestMemberMeeting(Candidate candidate) {
            int lightest = NONE;
            int least = 0;
            for (int i = 0; i < size; i++) {
                Candidate member = at(i);
                if (member != null && member.isIn && member.meets(candidate)
                        && (lightest == NONE || member.weight < least)) {
                    lightest = i;
                    least = member.weight;
                }
            }
            return lightest;
        }
    }

    /** The recorder's settings, and its search for the best of all sets of candidates. */
    private static final class Recorder {
        int tuners = 1;
        int lead = 0;
        int tail = 0;
        int room = MOST_ROOM;
        int now = 0;
        private int chosen = 0;
        private int underWay = 0;
        private int weight = 0;
        private int spans = 0;
        private int bestChosen = 0;
        private int bestUnderWay = NONE;
        private int bestWeight = 0;
        private int bestSpans = 0;

        void choose(Plan plan) {
            chosen = 0;
            underWay = 0;
            weight = 0;
            spans = 0;
            bestChosen = 0;
            // Below what any set has, so that the first set found is kept.
            bestUnderWay = NONE;
            search(plan, 0);
            plan.settle(bestChosen);
        }

        // With each candidate first and without it then: of sets that are as good, the one that is due comes first.
        private void search(Plan plan, int i) {
            Candidate candidate = plan.at(i);
            if (!canBeatBest(candidate)) {
                return;
            }
            if (candidate == null) {
                keepAsBest();
                return;
            }
            if (canAdd(candidate)) {
                addOrDrop(candidate, i, 1);
                search(plan, i + 1);
                addOrDrop(candidate, i, -1);
            }
            search(plan, i + 1);
        }

        private boolean canBeatBest(Candidate next) {
            int mostUnderWay = underWay + (next == null ? 0 : next.underWayAhead);
            if (mostUnderWay != bestUnderWay) {
                return mostUnderWay > bestUnderWay;
            }
            int mostWeight = weight + (next == null ? 0 : next.weightAhead);
            if (mostWeight != bestWeight) {
                return mostWeight > bestWeight;
            }
            return spans < bestSpans;
        }

        private void keepAsBest() {
            bestChosen = chosen;
            bestUnderWay = underWay;
            bestWeight = weight;
            bestSpans = spans;
        }

        private boolean canAdd(Candidate candidate) {
            return candidate.mayBeIn
                    && (chosen & candidate.earlierOnes) == 0
                    && Integer.bitCount(chosen & candidate.earlierOn) < tuners
                    && spans + candidate.span() <= room;
        }

        private void addOrDrop(Candidate candidate, int i, int sign) {
            chosen ^= 1 << i;
            underWay += candidate.underWay ? sign : 0;
            weight += sign * candidate.weight;
            spans += sign * candidate.span();
        }
    }
}
