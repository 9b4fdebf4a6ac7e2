import java.util.Arrays;

/** A parlour in which only those may speak that have said fewest words. */
public final class SaidLeast {
    public static final int UNKNOWN = -1, BAD = -2, LATE = -3, FULL = -4, NONE = -9;

    private static final int MOST_PEOPLE = 6;
    private static final int MOST_SAYINGS = 8;
    private static final int MOST_SETS = 1 << MOST_SAYINGS;
    private static final int MOST_BYTES = 64;
    private static final int MOST_ACTS = 12;
    private static final int SLOTS = 2;
    private static final int LAWS = 3;
    private static final int MOST_TALK = 9;
    private static final int MOST_ORDER_WORDS = 72;
    private static final int MOST_OUT_EACH = 9;
    private static final int MOST_OUT_WORDS = 54;
    private static final int MOST_TURNS = 6;
    private static final int TENTHS = 10;
    private static final int[] POWERS_OF_TEN = {
        1, 10, 100, 1_000, 10_000, 100_000, 1_000_000, 10_000_000, 100_000_000
    };

    private final Text text;
    private final Reader reader;
    private final Told told;
    private final State now;
    private final State trial;
    private final Acts acts;
    private final State[] slots;
    private final Orders orders;
    private final Contest contest;
    private final Guesses guesses;
    private int keptSlots;

    public SaidLeast() {
        text = new Text();
        reader = new Reader();
        told = new Told();
        now = new State();
        trial = new State();
        acts = new Acts();
        slots = new State[SLOTS];
        for (int slot = 0; slot < SLOTS; slot++) {
            slots[slot] = new State();
        }
        orders = new Orders();
        contest = new Contest();
        guesses = new Guesses();
    }

    // ---- the parlour

    public int write(int n, long v) {
        if (n < 1 || n > 8) {
            return BAD;
        }
        if (text.length + n > MOST_BYTES) {
            return FULL;
        }
        text.append(n, v);
        return text.length;
    }

    public int wipe() {
        int before = text.length;
        text.length = 0;
        return before;
    }

    public int fault() {
        return reader.firstFault(text);
    }

    public int parlour() {
        if (reader.firstFault(text) != NONE) {
            return LATE;
        }
        told.copyFrom(reader.told);
        now.copyFrom(reader.state);
        acts.clear();
        keptSlots = 0;
        return told.people;
    }

    public int about(int what) {
        switch (what) {
            case 0: return told.people;
            case 1: return told.sayings;
            case 2: return now.law;
            case 3: return now.there;
            case 4: return now.least();
            case 5: return now.said;
            case 6: return told.worthOf(now.said);
            case 7: return acts.count;
            case 8: return now.wordsThere();
            case 9: return now.last;
            case 10: return text.length;
            default: return BAD;
        }
    }

    public int person(int person, int what) {
        if (!told.hasPerson(person)) {
            return UNKNOWN;
        }
        switch (what) {
            case 0: return now.words[person];
            case 1: return has(now.there, person) ? 1 : 0;
            case 2: return has(now.least(), person) ? 1 : 0;
            case 3: return told.worthOf(now.said & told.sayingsOf(person));
            default: return BAD;
        }
    }

    public int saying(int saying, int what) {
        if (!told.hasSaying(saying)) {
            return UNKNOWN;
        }
        switch (what) {
            case 0: return told.speaker[saying];
            case 1: return told.words[saying];
            case 2: return told.worth[saying];
            case 3: return told.answers[saying];
            case 4: return has(now.said, saying) ? 1 : 0;
            default: return BAD;
        }
    }

    public int law(int law) {
        if (law < 0 || law >= LAWS) {
            return BAD;
        }
        int before = now.law;
        now.law = law;
        return before;
    }

    // ---- acts

    public int may(int saying) {
        if (!told.hasSaying(saying)) {
            return UNKNOWN;
        }
        return now.allows(told, saying) ? 1 : 0;
    }

    public int say(int saying) {
        if (!told.hasSaying(saying)) {
            return UNKNOWN;
        }
        if (!now.allows(told, saying)) {
            return LATE;
        }
        int person = told.speaker[saying];
        acts.remember(now, person);
        now.utter(told, saying);
        return now.words[person];
    }

    public int talk(int person, int n) {
        if (!told.hasPerson(person)) {
            return UNKNOWN;
        }
        if (n < 1 || n > MOST_TALK) {
            return BAD;
        }
        if (!has(now.least(), person)) {
            return LATE;
        }
        acts.remember(now, person);
        now.words[person] += n;
        now.last = NONE;
        return now.words[person];
    }

    public int come(int person) {
        if (!told.hasPerson(person)) {
            return UNKNOWN;
        }
        if (has(now.there, person)) {
            return LATE;
        }
        acts.remember(now, person);
        now.words[person] = now.wordsOfNewcomer();
        now.there |= 1 << person;
        now.last = NONE;
        return now.words[person];
    }

    public int go(int person) {
        if (!told.hasPerson(person)) {
            return UNKNOWN;
        }
        if (!has(now.there, person)) {
            return LATE;
        }
        acts.remember(now, person);
        now.there &= ~(1 << person);
        now.last = NONE;
        return now.countThere();
    }

    public int undo() {
        if (acts.count == 0) {
            return LATE;
        }
        acts.takeBack(now);
        return acts.count;
    }

    public int judge(int n, int row) {
        if (n < 1 || n > 8 || row < 0 || row >= POWERS_OF_TEN[n]) {
            return BAD;
        }
        trial.copyFrom(now);
        for (int place = 0; place < n; place++) {
            int saying = row / POWERS_OF_TEN[n - 1 - place] % 10;
            if (!told.hasSaying(saying) || !trial.allows(told, saying)) {
                return place;
            }
            trial.utter(told, saying);
        }
        return NONE;
    }

    // ---- orders

    public int most(int t) {
        if (t < 0 || t > MOST_ORDER_WORDS) {
            return BAD;
        }
        return orders.mostWorth(told, now, t);
    }

    public int mostAt(int t, int i) {
        if (t < 0 || t > MOST_ORDER_WORDS) {
            return BAD;
        }
        return orders.sayingOfFirst(told, now, t, i);
    }

    public int soon(int saying) {
        if (!told.hasSaying(saying)) {
            return UNKNOWN;
        }
        return orders.fewestWordsAhead(told, now, saying);
    }

    public int need(int person) {
        if (!told.hasPerson(person)) {
            return UNKNOWN;
        }
        if (!has(now.there, person)) {
            return LATE;
        }
        return now.wordsMissingBelow(now.words[person]);
    }

    public int each() {
        return contest.endOf(told, now);
    }

    // ---- guessed

    public long out(int t, int people) {
        if (t < 0 || t > MOST_OUT_WORDS || people < 0 || people >= 1 << told.people) {
            return BAD;
        }
        return guesses.waysWhileOut(now, t, people);
    }

    public long chance(int person, int n, int x, boolean upper) {
        if (!told.hasPerson(person)) {
            return UNKNOWN;
        }
        if (n < 0 || n > MOST_TURNS || x < 0 || x > TENTHS) {
            return BAD;
        }
        guesses.weighTurns(now, person, n, x);
        return upper ? guesses.upper : guesses.lower;
    }

    // ---- slots

    public int keep(int slot) {
        if (slot < 0 || slot >= SLOTS) {
            return UNKNOWN;
        }
        slots[slot].copyFrom(now);
        keptSlots |= 1 << slot;
        return now.countThere();
    }

    public int again(int slot) {
        if (slot < 0 || slot >= SLOTS) {
            return UNKNOWN;
        }
        if (!has(keptSlots, slot)) {
            return LATE;
        }
        now.copyFrom(slots[slot]);
        acts.clear();
        return now.countThere();
    }

    private static boolean has(int set, int member) {
        return (set >> member & 1) != 0;
    }

    private static int firstOf(int people) {
        for (int person = 0; person < MOST_PEOPLE; person++) {
            if (has(people, person)) {
                return person;
            }
        }
        return NONE;
    }

    /** The bytes that were written. */
    private static final class Text {
        final byte[] bytes = new byte[MOST_BYTES];
        int length;

        void append(int n, long v) {
            for (int i = n - 1; i >= 0 && length < MOST_BYTES; i--) {
                bytes[length] = (byte) (v >>> (8 * i));
                length++;
            }
        }
    }

    /** What a parlour tells once and for all. */
    private static final class Told {
        final int[] speaker = new int[MOST_SAYINGS];
        final int[] words = new int[MOST_SAYINGS];
        final int[] worth = new int[MOST_SAYINGS];
        final int[] answers = new int[MOST_SAYINGS];
        int people;
        int sayings;

        void copyFrom(Told other) {
            System.arraycopy(other.speaker, 0, speaker, 0, MOST_SAYINGS);
            System.arraycopy(other.words, 0, words, 0, MOST_SAYINGS);
            System.arraycopy(other.worth, 0, worth, 0, MOST_SAYINGS);
            System.arraycopy(other.answers, 0, answers, 0, MOST_SAYINGS);
            people = other.people;
            sayings = other.sayings;
        }

        boolean hasPerson(int person) {
            return person >= 0 && person < people;
        }

        boolean hasSaying(int saying) {
            return saying >= 0 && saying < sayings;
        }

        int sayingsOf(int person) {
            int set = 0;
            for (int saying = 0; saying < sayings; saying++) {
                if (speaker[saying] == person) {
                    set |= 1 << saying;
                }
            }
            return set;
        }

        int worthOf(int set) {
            int sum = 0;
            for (int saying = 0; saying < sayings; saying++) {
                if (has(set, saying)) {
                    sum += worth[saying];
                }
            }
            return sum;
        }
    }

    /** What changes in the course of an evening, and what a slot keeps. */
    private static final class State {
        final int[] words = new int[MOST_PEOPLE];
        int there;
        int said;
        int last = NONE;
        int law;

        void copyFrom(State other) {
            System.arraycopy(other.words, 0, words, 0, MOST_PEOPLE);
            there = other.there;
            said = other.said;
            last = other.last;
            law = other.law;
        }

        int countThere() {
            return Integer.bitCount(there);
        }

        int least() {
            int fewest = 0;
            int set = 0;
            for (int person = 0; person < MOST_PEOPLE; person++) {
                if (!has(there, person) || set != 0 && words[person] > fewest) {
                    continue;
                }
                if (words[person] < fewest) {
                    set = 0;
                }
                fewest = words[person];
                set |= 1 << person;
            }
            return set;
        }

        int wordsThere() {
            int sum = 0;
            for (int person = 0; person < MOST_PEOPLE; person++) {
                if (has(there, person)) {
                    sum += words[person];
                }
            }
            return sum;
        }

        int wordsMissingBelow(int level) {
            int sum = 0;
            for (int person = 0; person < MOST_PEOPLE; person++) {
                if (has(there, person)) {
                    sum += Math.max(0, level - words[person]);
                }
            }
            return sum;
        }

        int wordsOfNewcomer() {
            int count = countThere();
            if (law == 0 || count == 0) {
                return 0;
            }
            return law == 1 ? wordsThere() / count : mostWords();
        }

        private int mostWords() {
            int top = 0;
            for (int person = 0; person < MOST_PEOPLE; person++) {
                if (has(there, person)) {
                    top = Math.max(top, words[person]);
                }
            }
            return top;
        }

        boolean allows(Told told, int saying) {
            int person = told.speaker[saying];
            if (has(said, saying) || !has(there, person)) {
                return false;
            }
            int answered = told.answers[saying];
            return answered == NONE ? has(least(), person) : answered == last;
        }

        void utter(Told told, int saying) {
            words[told.speaker[saying]] += told.words[saying];
            said |= 1 << saying;
            last = saying;
        }
    }

    /** Reads a text byte by byte; what it tells stands ready in told and state. */
    private static final class Reader {
        private static final int AT_Q = 0, AT_LAW = 1, AT_PART = 2, AT_TENS = 3, AT_ONES = 4;
        private static final int AT_SPEAKER = 5, AT_WORDS = 6, AT_WORTH = 7, AT_ANSWERS = 8;

        final Told told = new Told();
        final State state = new State();
        private int due;
        private int answered;

        int firstFault(Text text) {
            begin();
            for (int place = 0; place < text.length; place++) {
                if (!takes(text.bytes[place])) {
                    return place;
                }
            }
            return due == AT_PART ? NONE : text.length;
        }

        private void begin() {
            told.people = 0;
            told.sayings = 0;
            Arrays.fill(state.words, 0);
            state.there = 0;
            state.law = 0;
            answered = 0;
            due = AT_Q;
        }

        private boolean takes(int sign) {
            switch (due) {
                case AT_Q: return takesStart(sign);
                case AT_LAW: return takesLaw(sign - '0');
                case AT_PART: return sign == 'S' ? opensSaying() : opensPerson(sign);
                case AT_TENS: return takesTens(sign - '0');
                case AT_ONES: return takesOnes(sign - '0');
                case AT_SPEAKER: return takesSpeaker(sign - '0');
                case AT_WORDS: return takesWords(sign - '0');
                case AT_WORTH: return takesWorth(sign - '0');
                default: return sign == '-' ? closesSaying(NONE) : takesAnswered(sign - '0');
            }
        }

        private boolean takesStart(int sign) {
            due = AT_LAW;
            return sign == 'Q';
        }

        private boolean takesLaw(int figure) {
            if (figure < 0 || figure >= LAWS) {
                return false;
            }
            state.law = figure;
            due = AT_PART;
            return true;
        }

        private boolean opensPerson(int sign) {
            if (told.people >= MOST_PEOPLE || sign != 'P' && sign != 'A') {
                return false;
            }
            if (sign == 'P') {
                state.there |= 1 << told.people;
            }
            due = AT_TENS;
            return true;
        }

        private boolean takesTens(int figure) {
            if (figure < 0 || figure > 9 || told.people >= MOST_PEOPLE) {
                return false;
            }
            state.words[told.people] = 10 * figure;
            due = AT_ONES;
            return true;
        }

        private boolean takesOnes(int figure) {
            if (figure < 0 || figure > 9 || told.people >= MOST_PEOPLE) {
                return false;
            }
            state.words[told.people] += figure;
            told.people++;
            due = AT_PART;
            return true;
        }

        private boolean opensSaying() {
            if (told.sayings >= MOST_SAYINGS || told.people == 0) {
                return false;
            }
            due = AT_SPEAKER;
            return true;
        }

        private boolean takesSpeaker(int figure) {
            if (!told.hasPerson(figure) || told.sayings >= MOST_SAYINGS) {
                return false;
            }
            told.speaker[told.sayings] = figure;
            due = AT_WORDS;
            return true;
        }

        private boolean takesWords(int figure) {
            if (figure < 1 || figure > 9 || told.sayings >= MOST_SAYINGS) {
                return false;
            }
            told.words[told.sayings] = figure;
            due = AT_WORTH;
            return true;
        }

        private boolean takesWorth(int figure) {
            if (figure < 0 || figure > 9 || told.sayings >= MOST_SAYINGS) {
                return false;
            }
            told.worth[told.sayings] = figure;
            due = AT_ANSWERS;
            return true;
        }

        private boolean takesAnswered(int figure) {
            if (!told.hasSaying(figure) || has(answered, figure)) {
                return false;
            }
            answered |= 1 << figure;
            return closesSaying(figure);
        }

        private boolean closesSaying(int answer) {
            if (told.sayings >= MOST_SAYINGS) {
                return false;
            }
            told.answers[told.sayings] = answer;
            told.sayings++;
            due = AT_PART;
            return true;
        }
    }

    /** The row of acts: of each, what it changed, as it was before. */
    private static final class Acts {
        private final int[] person = new int[MOST_ACTS];
        private final int[] words = new int[MOST_ACTS];
        private final int[] there = new int[MOST_ACTS];
        private final int[] said = new int[MOST_ACTS];
        private final int[] last = new int[MOST_ACTS];
        private int first;
        int count;

        void clear() {
            count = 0;
        }

        void remember(State state, int who) {
            if (count == MOST_ACTS) {
                first = (first + 1) % MOST_ACTS;
                count--;
            }
            int place = (first + count) % MOST_ACTS;
            person[place] = who;
            words[place] = state.words[who];
            there[place] = state.there;
            said[place] = state.said;
            last[place] = state.last;
            count++;
        }

        void takeBack(State state) {
            count--;
            int place = (first + count) % MOST_ACTS;
            state.words[person[place]] = words[place];
            state.there = there[place];
            state.said = said[place];
            state.last = last[place];
        }
    }

    /** Who is least when more was said. */
    private static final class Ahead {
        private final State then = new State();

        int leastAt(Told told, State now, int set) {
            then.copyFrom(now);
            for (int saying = 0; saying < told.sayings; saying++) {
                if (has(set & ~now.said, saying)) {
                    then.words[told.speaker[saying]] += told.words[saying];
                }
            }
            return then.least();
        }
    }

    /**
     * Looks ahead over sets of sayings said. Words and worth hang on the set alone, not on its order; only
     * answers ask which saying was the last, so of each set it is enough to know which can be the last.
     */
    private static final class Orders {
        private static final int NO_LAST = 1 << MOST_SAYINGS;

        private final Ahead ahead = new Ahead();
        private final int[] lasts = new int[MOST_SETS];
        private final int[] open = new int[MOST_SETS];
        private final int[] spent = new int[MOST_SETS];
        private final int[] gained = new int[MOST_SETS];
        private final int[] good = new int[MOST_SETS];

        int mostWorth(Told told, State now, int t) {
            spread(told, now);
            return topWorth(told, now, t);
        }

        int sayingOfFirst(Told told, State now, int t, int i) {
            spread(told, now);
            int top = topWorth(told, now, t);
            markGood(told, now, t, top);
            int set = now.said;
            int last = now.last;
            for (int place = 0; place < MOST_SAYINGS; place++) {
                int next = gained[set] == top ? NONE : firstGood(told, set, last);
                if (next == NONE || place == i) {
                    return next;
                }
                set |= 1 << next;
                last = next;
            }
            return NONE;
        }

        int fewestWordsAhead(Told told, State now, int saying) {
            spread(told, now);
            int fewest = NONE;
            for (int set = now.said; set < 1 << told.sayings; set++) {
                if (lasts[set] != 0 && has(open[set], saying) && (fewest == NONE || spent[set] < fewest)) {
                    fewest = spent[set];
                }
            }
            return fewest;
        }

        /** Finds which sets can come about, with which sayings last, and what may be said next. */
        private void spread(Told told, State now) {
            Arrays.fill(lasts, 0);
            lasts[now.said] = lastBit(now.last);
            spent[now.said] = 0;
            gained[now.said] = 0;
            for (int set = now.said; set < 1 << told.sayings; set++) {
                if (lasts[set] != 0) {
                    open[set] = openAt(told, now, set);
                    goOnFrom(told, set);
                }
            }
        }

        private static int lastBit(int last) {
            return last == NONE ? NO_LAST : 1 << last;
        }

        private int openAt(Told told, State now, int set) {
            int least = ahead.leastAt(told, now, set);
            int found = 0;
            for (int saying = 0; saying < told.sayings; saying++) {
                int person = told.speaker[saying];
                boolean inTurn = told.answers[saying] == NONE ? has(least, person)
                    : has(now.there, person) && canFollow(told, saying, lasts[set]);
                if (inTurn && !has(set, saying)) {
                    found |= 1 << saying;
                }
            }
            return found;
        }

        private static boolean canFollow(Told told, int saying, int lastOnes) {
            int answered = told.answers[saying];
            return answered == NONE || has(lastOnes, answered);
        }

        private void goOnFrom(Told told, int set) {
            for (int saying = 0; saying < told.sayings; saying++) {
                if (has(open[set], saying)) {
                    int next = set | 1 << saying;
                    lasts[next] |= 1 << saying;
                    spent[next] = spent[set] + told.words[saying];
                    gained[next] = gained[set] + told.worth[saying];
                }
            }
        }

        private int topWorth(Told told, State now, int t) {
            int top = 0;
            for (int set = now.said; set < 1 << told.sayings; set++) {
                if (lasts[set] != 0 && spent[set] <= t) {
                    top = Math.max(top, gained[set]);
                }
            }
            return top;
        }

        /** Finds of each set behind which last sayings the top can still be come by. */
        private void markGood(Told told, State now, int t, int top) {
            for (int set = (1 << told.sayings) - 1; set >= now.said; set--) {
                if (lasts[set] == 0 || spent[set] > t) {
                    good[set] = 0;
                } else {
                    good[set] = gained[set] == top ? lasts[set] : goodByNext(told, set);
                }
            }
        }

        private int goodByNext(Told told, int set) {
            int found = 0;
            for (int saying = 0; saying < told.sayings; saying++) {
                if (has(open[set], saying) && has(good[set | 1 << saying], saying)) {
                    int answered = told.answers[saying];
                    found |= answered == NONE ? lasts[set] : 1 << answered;
                }
            }
            return found;
        }

        private int firstGood(Told told, int set, int last) {
            for (int saying = 0; saying < told.sayings; saying++) {
                if (has(open[set], saying) && canFollow(told, saying, lastBit(last))
                        && has(good[set | 1 << saying], saying)) {
                    return saying;
                }
            }
            return NONE;
        }
    }

    /** What all say or hold out, each for itself: from the ends back to now. */
    private static final class Contest {
        private static final int CAN_BE = 1 << MOST_PEOPLE;

        private final Ahead ahead = new Ahead();
        private final int[] leasts = new int[MOST_SETS];
        private final int[] ends = new int[MOST_SETS];

        int endOf(Told told, State now) {
            spread(told, now);
            for (int set = (1 << told.sayings) - 1; set >= now.said; set--) {
                if (leasts[set] != 0) {
                    ends[set] = endFrom(told, set);
                }
            }
            return ends[now.said];
        }

        /** Finds which sets can come about, and who is least then. */
        private void spread(Told told, State now) {
            Arrays.fill(leasts, 0);
            leasts[now.said] = CAN_BE;
            for (int set = now.said; set < 1 << told.sayings; set++) {
                if (leasts[set] != 0) {
                    leasts[set] |= ahead.leastAt(told, now, set);
                    goOnFrom(told, set);
                }
            }
        }

        private void goOnFrom(Told told, int set) {
            for (int saying = 0; saying < told.sayings; saying++) {
                if (!has(set, saying) && has(leasts[set], told.speaker[saying])) {
                    leasts[set | 1 << saying] = CAN_BE;
                }
            }
        }

        /** Goes from the last that is asked to the first, as each knows what those behind it will do. */
        private int endFrom(Told told, int set) {
            int end = set;
            for (int person = MOST_PEOPLE - 1; person >= 0; person--) {
                if (has(leasts[set], person)) {
                    end = choiceOf(told, person, set, end);
                }
            }
            return end;
        }

        private int choiceOf(Told told, int person, int set, int endIfHeldOut) {
            int own = told.sayingsOf(person);
            int end = endIfHeldOut;
            int most = told.worthOf(own & end);
            for (int saying = 0; saying < told.sayings; saying++) {
                if (!has(own & ~set, saying)) {
                    continue;
                }
                int endIfSaid = ends[set | 1 << saying];
                int worth = told.worthOf(own & endIfSaid);
                if (worth > most) {
                    most = worth;
                    end = endIfSaid;
                }
            }
            return end;
        }
    }

    /** Counts what may have been said unheard, and weighs what may be said by chance. */
    private static final class Guesses {
        private final long[] ways = new long[MOST_OUT_WORDS + 1];
        private final State then = new State();
        long upper;
        long lower = 1;

        long waysWhileOut(State now, int t, int people) {
            if (now.there == 0) {
                return t == 0 && people == 0 ? 1 : 0;
            }
            int one = firstOf(people);
            if (one == NONE || (people & ~now.there) != 0) {
                return 0;
            }
            long sum = 0;
            for (int more = 0; more <= MOST_OUT_EACH; more++) {
                sum += waysAtLevel(now, t, people, now.words[one] + more);
            }
            return sum;
        }

        /** The ways by which those people come to just that level, and all others above it. */
        private long waysAtLevel(State now, int t, int people, int level) {
            Arrays.fill(ways, 0);
            ways[0] = 1;
            for (int person = 0; person < MOST_PEOPLE; person++) {
                if (has(now.there, person)) {
                    int missing = level - now.words[person];
                    boolean isLeast = has(people, person);
                    int from = isLeast ? missing : missing + 1;
                    int to = isLeast ? missing : MOST_OUT_EACH;
                    addWords(t, Math.max(0, from), Math.min(MOST_OUT_EACH, to));
                }
            }
            return ways[t];
        }

        /** One more says from .. to words; from the top down, as each sum hangs on lower ones alone. */
        private void addWords(int t, int from, int to) {
            for (int total = t; total >= 0; total--) {
                long sum = 0;
                for (int words = from; words <= to && words <= total; words++) {
                    sum += ways[total - words];
                }
                ways[total] = sum;
            }
        }

        void weighTurns(State now, int person, int n, int x) {
            upper = 0;
            for (int path = 0; path < 1 << n; path++) {
                if (isLeastBehind(now, person, n, path)) {
                    upper += weight(n, x, path);
                }
            }
            lower = POWERS_OF_TEN[n];
            cancel(n);
        }

        /** A path's bits tell the turns in which two words are said. */
        private boolean isLeastBehind(State now, int person, int n, int path) {
            then.copyFrom(now);
            for (int turn = 0; turn < n; turn++) {
                int speaker = firstOf(then.least());
                if (speaker != NONE) {
                    then.words[speaker] += has(path, turn) ? 2 : 1;
                }
            }
            return has(then.least(), person);
        }

        private static long weight(int n, int x, int path) {
            long product = 1;
            for (int turn = 0; turn < n; turn++) {
                product *= has(path, turn) ? TENTHS - x : x;
            }
            return product;
        }

        /** What is below is a power of ten, so only twos and fives can be common. */
        private void cancel(int n) {
            for (int i = 0; i < n; i++) {
                if (upper % 2 == 0 && lower % 2 == 0) {
                    upper /= 2;
                    lower /= 2;
                }
                if (upper % 5 == 0 && lower % 5 == 0) {
                    upper /= 5;
                    lower /= 5;
                }
            }
        }
    }
}
