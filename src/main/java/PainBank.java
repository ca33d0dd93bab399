import java.util.Arrays;
import java.util.NoSuchElementException;

/** A bank at which pain may be deposited; README.md says how it is used. */
public final class PainBank {
    public static final int NONE = -1;

    private static final int MOST_PEOPLE = 8;
    private static final int WEEK = 7;
    private static final int MOST_SETS = 256;
    private static final int TAPE_SIZE = 400;
    private static final int MOST_TEXTS = 12;
    private static final int BANK_LINES = 14;
    private static final int LAW_LINES = 12;
    private static final int DEEPEST = 6;
    private static final int FULL_ACCOUNT = 99999;
    private static final int MOST_OWED = 9999;
    private static final int LAST_DAY = 9999;
    private static final int FALL_PAIN = 5;
    private static final int LOG_ROWS = 60;
    private static final int LOG_WIDTH = 4;
    private static final int MOST_ACTS = 12;
    private static final int MOST_AHEAD = 60;
    private static final int MOST_PLANNED = 40;
    private static final int SPAN_SEEDS = 6;

    // In a law's code a number from 0 to 999 stands for itself; what is below ADD is a value.
    private static final int WHO = 1000;
    private static final int PAIN = 1001;
    private static final int ACCOUNT = 1002;
    private static final int BEARS = 1003;
    private static final int DAY = 1004;
    private static final int WET = 1005;
    private static final int SUNDAY = 1006;
    private static final int ADD = 1007;
    private static final int LESS = 1008;
    private static final int MORE = 1009;
    private static final int AND = 1010;
    private static final int OR = 1011;
    private static final int NOT = 1012;

    private final int[] tape = new int[TAPE_SIZE];
    private int tapeSize;
    private int faultAt = NONE;
    private final State now = new State();
    private final State draft = new State();
    private final State kept = new State();
    private boolean hasImage;
    private final Memory memory = new Memory();
    private final Text text = new Text();
    private final LawReader lawReader = new LawReader();
    private final Course course = new Course();
    private final Debts debts = new Debts();

    public PainBank() {
    }

    public int feed(int a, int b, int c, int d, int e) {
        if (tapeSize + 20 > TAPE_SIZE) {
            return NONE;
        }
        addBytes(a);
        addBytes(b);
        addBytes(c);
        addBytes(d);
        addBytes(e);
        return tapeSize;
    }

    public boolean end(int n) {
        if (n < 0 || n > tapeSize) {
            return false;
        }
        tapeSize = n;
        return true;
    }

    public int bank() throws IllegalArgumentException, UnsupportedOperationException {
        text.open(tape, tapeSize);
        tapeSize = 0;
        // Of a wrong text nothing may stay, so that it is read into a copy.
        draft.takeFrom(now);
        boolean right = BankReader.read(text, draft);
        faultAt = right ? NONE : text.begin;
        if (!right) {
            throw new IllegalArgumentException("the text is wrong");
        }
        if (now.texts >= MOST_TEXTS) {
            throw new UnsupportedOperationException("there are 12 texts");
        }
        now.takeFrom(draft);
        now.texts++;
        memory.forget();
        return now.texts;
    }

    public int law() throws IllegalArgumentException {
        text.open(tape, tapeSize);
        tapeSize = 0;
        Law read = lawReader.read(text);
        faultAt = read == null ? text.begin : NONE;
        if (read == null) {
            throw new IllegalArgumentException("the text is wrong");
        }
        now.law = read;
        memory.forget();
        return read.lines;
    }

    public int fault() {
        return faultAt;
    }

    public int person(int person, int what) throws IndexOutOfBoundsException, NoSuchElementException {
        mustBePerson(person);
        switch (what) {
            case 0:
                return now.bears[person];
            case 1:
                return now.account[person];
            case 2:
                return now.forged[person];
            case 3:
                return now.isAlive(person) ? 1 : 0;
            case 4:
                return now.heir[person];
            case 5:
                return now.hears[person];
            case 6:
                return now.netOf(person);
            case 7:
                return Burdens.worstDay(now, person);
            case 8:
                return Burdens.will(now, person);
            case 9:
                return Burdens.heirs(now, person);
            default:
                throw new NoSuchElementException("no such what");
        }
    }

    public int pain(int person, int weekday) throws IndexOutOfBoundsException {
        mustBePerson(person);
        mustBeWeekday(weekday);
        return now.painOn(person, weekday);
    }

    public int owed(int person, int other) throws IndexOutOfBoundsException, IllegalArgumentException {
        mustBeTwo(person, other);
        return now.owed[person * MOST_PEOPLE + other];
    }

    public int today(int person, int what) throws IndexOutOfBoundsException, IllegalStateException, NoSuchElementException {
        mustBePerson(person);
        mustLive(person);
        if (what < 0 || what > 2) {
            throw new NoSuchElementException("no such what");
        }
        goAhead(1);
        if (what == 0) {
            return course.given[person];
        }
        return what == 1 ? course.taken[person] : course.felt[person];
    }

    public int put(int person, int n) throws IndexOutOfBoundsException, IllegalArgumentException, IllegalStateException {
        mustBePerson(person);
        mustLie(n, 1, 9999);
        mustLie(now.account[person] + n, 0, FULL_ACCOUNT);
        mustLive(person);
        mustStand();
        memory.remember(now);
        now.account[person] += n;
        return now.account[person];
    }

    public int draw(int person, int n) throws IndexOutOfBoundsException, IllegalArgumentException, IllegalStateException {
        mustBePerson(person);
        mustLie(n, 1, now.account[person]);
        mustLive(person);
        mustStand();
        memory.remember(now);
        int unfelt = Math.min(n, now.forged[person]);
        now.forged[person] -= unfelt;
        now.account[person] -= n;
        return n - unfelt;
    }

    public int cheque(int person, int other, int n) throws IndexOutOfBoundsException, IllegalArgumentException, IllegalStateException {
        mustBeTwo(person, other);
        mustLie(n, 1, now.account[person]);
        mustLie(now.account[other] + n, 0, FULL_ACCOUNT);
        mustLive(person);
        mustLive(other);
        mustStand();
        memory.remember(now);
        now.account[person] -= n;
        now.account[other] += n;
        int moved = Math.max(0, now.forged[person] - now.account[person]);
        now.forged[person] -= moved;
        now.forged[other] += moved;
        return now.account[other];
    }

    public int owe(int person, int other, int n) throws IndexOutOfBoundsException, IllegalArgumentException, IllegalStateException {
        mustBeTwo(person, other);
        mustLie(n, 1, 999);
        int sum = now.owed[person * MOST_PEOPLE + other] + n;
        if (sum > MOST_OWED) {
            throw new IllegalStateException("so much cannot be owed");
        }
        memory.remember(now);
        now.owed[person * MOST_PEOPLE + other] = sum;
        return sum;
    }

    public int net() {
        memory.remember(now);
        return debts.settle(now);
    }

    public int die(int person) throws IndexOutOfBoundsException, IllegalStateException {
        mustBePerson(person);
        mustLive(person);
        memory.remember(now);
        now.alive &= ~(1 << person);
        int heir = now.heir[person];
        if (!now.isAlive(heir)) {
            heir = NONE;
        } else {
            now.account[heir] = Math.min(FULL_ACCOUNT, now.account[heir] + now.account[person]);
            // No more can be forged than the account holds.
            now.forged[heir] = Math.min(now.account[heir], now.forged[heir] + now.forged[person]);
        }
        now.account[person] = 0;
        now.forged[person] = 0;
        return heir;
    }

    public int hear(int person, int others) throws IndexOutOfBoundsException {
        mustBePerson(person);
        memory.remember(now);
        int before = now.hears[person];
        now.hears[person] = others & now.everybody() & ~(1 << person);
        return before;
    }

    public boolean refound() {
        memory.remember(now);
        boolean before = now.failed;
        now.failed = false;
        return before;
    }

    public int days(int n) throws IllegalArgumentException {
        mustLie(n, 1, MOST_AHEAD);
        memory.remember(now);
        int times = 0;
        for (int i = 0; i < n; i++) {
            int day = now.day;
            int over = course.pass(now, true);
            if (over > 0) {
                course.writeLog(now, day);
            }
            times += over;
        }
        now.tooMuch += times;
        return times;
    }

    public int ahead(int person, int n) throws IndexOutOfBoundsException, IllegalArgumentException {
        mustBePerson(person);
        mustLie(n, 0, MOST_AHEAD);
        goAhead(n);
        return draft.account[person];
    }

    public boolean fails(int n) throws IllegalArgumentException {
        mustLie(n, 0, MOST_AHEAD);
        goAhead(n);
        return draft.failed;
    }

    public int first(boolean who) {
        draft.takeFrom(now);
        for (int i = 1; i <= MOST_AHEAD; i++) {
            if (course.pass(draft, false) > 0) {
                return who ? course.firstOver(draft) : i;
            }
        }
        return NONE;
    }

    public int plan(int person, int n, int k) throws IndexOutOfBoundsException, IllegalArgumentException {
        mustBePerson(person);
        mustLie(n, 1, MOST_PLANNED);
        if (k < NONE || k >= n) {
            return NONE;
        }
        int least = Burdens.leastBorne(now, person, n);
        return k == NONE ? least : Burdens.partOn(now, person, least, k);
    }

    public int cost(int person, int n) throws IndexOutOfBoundsException, IllegalArgumentException {
        mustBePerson(person);
        mustLie(n, 0, MOST_AHEAD);
        return now.isAlive(person) ? Burdens.interestOver(now, person, n) : 0;
    }

    public int netted() {
        return debts.fewestPayments(now);
    }

    public int ring(int person) throws IndexOutOfBoundsException {
        mustBePerson(person);
        return debts.shortestRing(now, person);
    }

    public int run(int person, boolean sum) throws IndexOutOfBoundsException, IllegalStateException {
        mustBePerson(person);
        mustLive(person);
        int who = Crowd.runFrom(now, 1 << person);
        return sum ? now.accountsOf(who) : who;
    }

    public int spark() {
        return Crowd.fewestToTell(now);
    }

    public int reserve() {
        return Crowd.greatestRun(now);
    }

    public int feelings() {
        int such = 0;
        for (int p = 0; p < now.people; p++) {
            if (now.isAlive(p) && now.account[p] > 0) {
                such++;
            }
        }
        int needed = 0;
        for (int told = 1; told < such; told *= 2) {
            needed++;
        }
        return needed;
    }

    public int saint(int sum, int weekday, boolean sure) throws IndexOutOfBoundsException {
        mustBeWeekday(weekday);
        return sure ? Crowd.inAllSets(now, sum, weekday) : Crowd.setsWithPain(now, sum, weekday);
    }

    public boolean share(int person, int other) throws IndexOutOfBoundsException, IllegalArgumentException, IllegalStateException {
        mustBeTwo(person, other);
        mustLive(person);
        mustLive(other);
        int both = 1 << person | 1 << other;
        return now.accountsOf(both) <= Burdens.roomOfTwo(now, person, other, now.day);
    }

    public int shares(int person, int other) throws IndexOutOfBoundsException, IllegalArgumentException, IllegalStateException {
        mustBeTwo(person, other);
        mustLive(person);
        mustLive(other);
        return Burdens.daysOfTwo(now, person, other);
    }

    public int could(int person) throws IndexOutOfBoundsException {
        mustBePerson(person);
        return Crowd.whoCouldBear(now, now.account[person]);
    }

    public int fewest() {
        return Crowd.fewestBearers(now);
    }

    public int quiet(boolean much) {
        int weekday = Crowd.quietDay(now);
        return much ? Crowd.painTogether(now, now.alive, weekday) : weekday;
    }

    public int peak(int person, int n, boolean when) throws IndexOutOfBoundsException, IllegalArgumentException, IllegalStateException {
        mustBePerson(person);
        mustLie(n, 1, MOST_AHEAD);
        mustLive(person);
        draft.takeFrom(now);
        int most = NONE;
        int day = 0;
        for (int i = 0; i < n; i++) {
            course.pass(draft, false);
            if (course.felt[person] > most) {
                most = course.felt[person];
                day = i;
            }
        }
        return when ? day : most;
    }

    public int needed(int n) throws IllegalArgumentException {
        mustLie(n, 0, MOST_AHEAD);
        draft.takeFrom(now);
        // A vault that never breaks shows what one would have to hold.
        draft.vault = MOST_PEOPLE * FULL_ACCOUNT;
        int most = 0;
        for (int i = 0; i < n; i++) {
            course.pass(draft, false);
            most = Math.max(most, draft.accountsOf(draft.everybody()));
        }
        return most;
    }

    public int parted(boolean part) {
        int bits = Crowd.evenPart(now);
        return part ? bits : Crowd.partedBy(now, bits);
    }

    public int rank(int person) throws IndexOutOfBoundsException, IllegalStateException {
        mustBePerson(person);
        mustLive(person);
        goAhead(1);
        int above = 0;
        for (int p = 0; p < now.people; p++) {
            if (now.isAlive(p) && course.felt[p] > course.felt[person]) {
                above++;
            }
        }
        return above;
    }

    public int strike() {
        return debts.mutual(now);
    }

    public int trial(int n, boolean accounts) throws IllegalArgumentException {
        mustLie(n, 0, MOST_PLANNED);
        int times = tryDays(n, now.seed);
        return accounts ? draft.accountsOf(draft.everybody()) : times;
    }

    public int span(int n, boolean most) throws IllegalArgumentException {
        mustLie(n, 0, MOST_PLANNED);
        int answer = tryDays(n, 1);
        for (int seed = 2; seed <= SPAN_SEEDS; seed++) {
            int times = tryDays(n, seed);
            answer = most ? Math.max(answer, times) : Math.min(answer, times);
        }
        return answer;
    }

    public int led(int person, boolean most) throws IndexOutOfBoundsException {
        mustBePerson(person);
        return most ? now.log.mostFeltBy(person) : now.log.rowsOf(person);
    }

    public int log(int ago, int what) throws NoSuchElementException {
        if (what < 0 || what >= LOG_WIDTH) {
            throw new NoSuchElementException("no such what");
        }
        return now.log.entry(ago, what);
    }

    public int seed(int n) {
        int before = now.seed;
        now.seed = n;
        return before;
    }

    public boolean undo() {
        return memory.recall(now);
    }

    public void image() {
        kept.takeAllFrom(now);
        hasImage = true;
    }

    public boolean back() {
        if (!hasImage) {
            return false;
        }
        now.takeAllFrom(kept);
        memory.forget();
        return true;
    }

    public int count(int what) {
        switch (what) {
            case 0:
                return now.people;
            case 1:
                return now.alive;
            case 2:
                return now.texts;
            case 3:
                return now.law == null ? NONE : now.law.lines;
            case 4:
                return now.day;
            case 5:
                return now.vault;
            case 6:
                return now.rate;
            case 7:
                return now.rain;
            case 8:
                return now.fall;
            case 9:
                return now.accountsOf(now.everybody());
            case 10:
                return now.forgedTogether();
            case 11:
                return now.failed ? 1 : 0;
            case 12:
                return now.tooMuch;
            case 13:
                return now.log.size;
            case 14:
                return memory.size;
            default:
                return NONE;
        }
    }

    private void addBytes(int four) {
        for (int shift = 24; shift >= 0 && tapeSize < TAPE_SIZE; shift -= 8) {
            tape[tapeSize] = four >>> shift & 255;
            tapeSize++;
        }
    }

    private void mustBePerson(int person) {
        if (person < 0 || person >= now.people) {
            throw new IndexOutOfBoundsException("no such person");
        }
    }

    private void mustBeWeekday(int weekday) {
        if (weekday < 0 || weekday >= WEEK) {
            throw new IndexOutOfBoundsException("no such weekday");
        }
    }

    private void mustBeTwo(int person, int other) {
        mustBePerson(person);
        mustBePerson(other);
        if (person == other) {
            throw new IllegalArgumentException("both are one");
        }
    }

    private void mustLie(int n, int least, int most) {
        if (n < least || n > most) {
            throw new IllegalArgumentException("the number is none");
        }
    }

    private void mustLive(int person) {
        if (!now.isAlive(person)) {
            throw new IllegalStateException("one is dead");
        }
    }

    private void mustStand() {
        if (now.failed) {
            throw new IllegalStateException("the bank failed");
        }
    }

    private void goAhead(int n) {
        draft.takeFrom(now);
        for (int i = 0; i < n; i++) {
            course.pass(draft, false);
        }
    }

    private int tryDays(int n, int seed) {
        draft.takeFrom(now);
        draft.seed = seed;
        int times = 0;
        for (int i = 0; i < n; i++) {
            times += course.pass(draft, true);
        }
        return times;
    }

    /** All that an act may change, and that comes back when it is undone. */
    private static final class State {
        int people;
        int alive;
        final int[] bears = new int[MOST_PEOPLE];
        final int[] pains = new int[MOST_PEOPLE * WEEK];
        final int[] account = new int[MOST_PEOPLE];
        final int[] forged = new int[MOST_PEOPLE];
        final int[] heir = new int[MOST_PEOPLE];
        final int[] hears = new int[MOST_PEOPLE];
        final int[] owed = new int[MOST_PEOPLE * MOST_PEOPLE];
        int vault = 999;
        int rate = 2;
        int rain;
        int fall;
        int day;
        int seed = 1;
        int texts;
        int tooMuch;
        boolean failed;
        Law law;
        final Log log = new Log();

        void takeAllFrom(State other) {
            takeFrom(other);
            log.takeFrom(other.log);
        }

        /** All but the log, which trials neither read nor write. */
        void takeFrom(State other) {
            people = other.people;
            alive = other.alive;
            System.arraycopy(other.bears, 0, bears, 0, MOST_PEOPLE);
            System.arraycopy(other.pains, 0, pains, 0, MOST_PEOPLE * WEEK);
            System.arraycopy(other.account, 0, account, 0, MOST_PEOPLE);
            System.arraycopy(other.forged, 0, forged, 0, MOST_PEOPLE);
            System.arraycopy(other.heir, 0, heir, 0, MOST_PEOPLE);
            System.arraycopy(other.hears, 0, hears, 0, MOST_PEOPLE);
            System.arraycopy(other.owed, 0, owed, 0, MOST_PEOPLE * MOST_PEOPLE);
            vault = other.vault;
            rate = other.rate;
            rain = other.rain;
            fall = other.fall;
            day = other.day;
            seed = other.seed;
            texts = other.texts;
            tooMuch = other.tooMuch;
            failed = other.failed;
            law = other.law;
        }

        int everybody() {
            return (1 << people) - 1;
        }

        boolean isAlive(int p) {
            return p >= 0 && p < people && (alive >> p & 1) == 1;
        }

        int painOn(int p, int day) {
            return pains[p * WEEK + day % WEEK];
        }

        /** The day that is so many from today on. */
        int dayIn(int n) {
            return Math.min(LAST_DAY, day + n);
        }

        /** What an account is when a day's interest has come to it. */
        int withInterest(int sum) {
            return Math.min(FULL_ACCOUNT, sum + (sum * rate + 99) / 100);
        }

        int accountsOf(int who) {
            int sum = 0;
            for (int p = 0; p < people; p++) {
                if ((who >> p & 1) == 1) {
                    sum += account[p];
                }
            }
            return sum;
        }

        int forgedTogether() {
            int sum = 0;
            for (int p = 0; p < people; p++) {
                sum += forged[p];
            }
            return sum;
        }

        int netOf(int p) {
            int sum = 0;
            for (int q = 0; q < people; q++) {
                sum += owed[q * MOST_PEOPLE + p] - owed[p * MOST_PEOPLE + q];
            }
            return sum;
        }
    }

    /** The latest rows on whom it was too much; the oldest makes room for the newest. */
    private static final class Log {
        final int[] rows = new int[LOG_ROWS * LOG_WIDTH];
        int size;
        int next;

        void takeFrom(Log other) {
            System.arraycopy(other.rows, 0, rows, 0, LOG_ROWS * LOG_WIDTH);
            size = other.size;
            next = other.next;
        }

        void add(int day, int who, int felt, int bears) {
            int at = next * LOG_WIDTH;
            rows[at] = day;
            rows[at + 1] = who;
            rows[at + 2] = felt;
            rows[at + 3] = bears;
            next = (next + 1) % LOG_ROWS;
            size = Math.min(LOG_ROWS, size + 1);
        }

        int entry(int ago, int what) {
            if (ago < 0 || ago >= size) {
                return NONE;
            }
            int row = (next + LOG_ROWS - 1 - ago) % LOG_ROWS;
            return rows[row * LOG_WIDTH + what];
        }

        int rowsOf(int person) {
            int found = 0;
            for (int ago = 0; ago < size; ago++) {
                if (entry(ago, 1) == person) {
                    found++;
                }
            }
            return found;
        }

        int mostFeltBy(int person) {
            int most = 0;
            for (int ago = 0; ago < size; ago++) {
                if (entry(ago, 1) == person) {
                    most = Math.max(most, entry(ago, 2));
                }
            }
            return most;
        }
    }

    /** How all was ahead of the latest acts. */
    private static final class Memory {
        final State[] before = new State[MOST_ACTS];
        int size;
        int next;

        Memory() {
            for (int i = 0; i < MOST_ACTS; i++) {
                before[i] = new State();
            }
        }

        void remember(State state) {
            before[next].takeAllFrom(state);
            next = (next + 1) % MOST_ACTS;
            size = Math.min(MOST_ACTS, size + 1);
        }

        boolean recall(State state) {
            if (size == 0) {
                return false;
            }
            next = (next + MOST_ACTS - 1) % MOST_ACTS;
            size--;
            state.takeAllFrom(before[next]);
            return true;
        }

        void forget() {
            size = 0;
        }
    }

    /**
     * A text as its words, numbers and signs, of which one is looked at. A reader that meets
     * what cannot stand there stops at it, so that begin is the first wrong byte.
     */
    private static final class Text {
        static final int END = 0;
        static final int WORD = 1;
        static final int NUMBER = 2;
        static final int SIGN = 3;

        final int[] bytes = new int[TAPE_SIZE];
        int size;
        int position;
        int kind;
        int begin;
        int width;
        int value;

        void open(int[] tape, int n) {
            size = Math.max(0, Math.min(n, Math.min(tape.length, TAPE_SIZE)));
            System.arraycopy(tape, 0, bytes, 0, size);
            position = 0;
            step();
        }

        void step() {
            while (position < size && bytes[position] == ' ') {
                position++;
            }
            begin = position;
            width = 0;
            value = 0;
            if (position >= size) {
                kind = END;
            } else if (isLetter(bytes[position])) {
                kind = WORD;
                while (position < size && isLetter(bytes[position])) {
                    position++;
                }
            } else if (isFigure(bytes[position])) {
                kind = NUMBER;
                while (position < size && isFigure(bytes[position])) {
                    // More figures are wrong anywhere, and would not fit.
                    if (position - begin < WEEK) {
                        value = value * 10 + bytes[position] - '0';
                    }
                    position++;
                }
            } else {
                kind = SIGN;
                position++;
            }
            width = position - begin;
        }

        boolean isEnd() {
            return kind == END;
        }

        boolean isSign(char sign) {
            return kind == SIGN && begin < size && bytes[begin] == sign;
        }

        boolean isWord(String word) {
            if (kind != WORD || width != word.length()) {
                return false;
            }
            for (int i = 0; i < word.length() && begin + i < size; i++) {
                if (bytes[begin + i] != word.charAt(i)) {
                    return false;
                }
            }
            return true;
        }

        boolean isNumber(int figures, int least, int most) {
            return kind == NUMBER && width <= figures && value >= least && value <= most;
        }

        boolean takesWord(String word) {
            if (!isWord(word)) {
                return false;
            }
            step();
            return true;
        }

        boolean takesSign(char sign) {
            if (!isSign(sign)) {
                return false;
            }
            step();
            return true;
        }

        private static boolean isLetter(int c) {
            return c >= 'a' && c <= 'z';
        }

        private static boolean isFigure(int c) {
            return c >= '0' && c <= '9';
        }
    }

    /** Reads a text of the bank into a state; false leaves the text at its first wrong byte. */
    private static final class BankReader {
        private static final int FIGURES = 5;

        static boolean read(Text t, State s) {
            if (t.isEnd()) {
                return true;
            }
            for (int lines = 0; lines < BANK_LINES; lines++) {
                if (!readLine(t, s)) {
                    return false;
                }
                if (t.isEnd()) {
                    return true;
                }
                if (!t.takesSign(';')) {
                    return false;
                }
            }
            return false;
        }

        private static boolean readLine(Text t, State s) {
            if (t.isWord("person")) {
                return readPerson(t, s);
            }
            if (t.isWord("heir") || t.isWord("hears") || t.isWord("owes")) {
                return readTwo(t, s);
            }
            if (t.isWord("account") || t.isWord("forged") || t.isWord("dead")) {
                return readOne(t, s);
            }
            return readSetting(t, s);
        }

        private static boolean readPerson(Text t, State s) {
            if (s.people >= MOST_PEOPLE) {
                return false;
            }
            t.step();
            if (!t.takesWord("bears") || !t.isNumber(FIGURES, 1, 99)) {
                return false;
            }
            int bears = t.value;
            t.step();
            if (!t.takesWord("pain") || !t.isNumber(WEEK, 0, 9999999) || t.width != WEEK) {
                return false;
            }
            int p = s.people;
            int figures = t.value;
            for (int weekday = WEEK - 1; weekday >= 0; weekday--) {
                s.pains[p * WEEK + weekday] = figures % 10;
                figures /= 10;
            }
            s.bears[p] = bears;
            s.heir[p] = NONE;
            s.alive |= 1 << p;
            s.people++;
            t.step();
            return true;
        }

        private static boolean readTwo(Text t, State s) {
            boolean heir = t.isWord("heir");
            boolean owes = t.isWord("owes");
            t.step();
            if (!isPerson(t, s)) {
                return false;
            }
            int p = t.value;
            t.step();
            if (!isPerson(t, s) || t.value == p) {
                return false;
            }
            int q = t.value;
            t.step();
            if (heir) {
                s.heir[p] = q;
            } else if (!owes) {
                s.hears[p] |= 1 << q;
            } else {
                if (!t.isNumber(FIGURES, 0, MOST_OWED)) {
                    return false;
                }
                s.owed[p * MOST_PEOPLE + q] = t.value;
                t.step();
            }
            return true;
        }

        private static boolean readOne(Text t, State s) {
            boolean dead = t.isWord("dead");
            boolean forged = t.isWord("forged");
            t.step();
            if (!isPerson(t, s)) {
                return false;
            }
            int p = t.value;
            t.step();
            if (dead) {
                s.alive &= ~(1 << p);
                return true;
            }
            if (!t.isNumber(FIGURES, 0, forged ? s.account[p] : FULL_ACCOUNT)) {
                return false;
            }
            if (!forged) {
                s.account[p] = t.value;
            }
            s.forged[p] = forged ? t.value : 0;
            t.step();
            return true;
        }

        private static boolean readSetting(Text t, State s) {
            boolean vault = t.isWord("vault");
            boolean rate = t.isWord("rate");
            boolean rain = t.isWord("rain");
            if (!vault && !rate && !rain && !t.isWord("fall")) {
                return false;
            }
            t.step();
            int most = vault ? FULL_ACCOUNT : rate ? 20 : 100;
            if (!t.isNumber(FIGURES, 0, most)) {
                return false;
            }
            if (vault) {
                s.vault = t.value;
            } else if (rate) {
                s.rate = t.value;
            } else if (rain) {
                s.rain = t.value;
            } else {
                s.fall = t.value;
            }
            t.step();
            return true;
        }

        private static boolean isPerson(Text t, State s) {
            return t.isNumber(FIGURES, 0, s.people - 1);
        }
    }

    /** Reads a law; false leaves the text at its first wrong byte. */
    private static final class LawReader {
        private static final int FIGURES = 3;

        final int[] code = new int[TAPE_SIZE];
        final int[] amounts = new int[LAW_LINES];
        final int[] starts = new int[LAW_LINES + 1];
        int size;
        int lines;
        int draws;

        /** The law, or null if the text is wrong. */
        Law read(Text t) {
            size = 0;
            lines = 0;
            draws = 0;
            boolean more = !t.isEnd();
            while (more && lines < LAW_LINES) {
                if (!readLine(t, lines)) {
                    return null;
                }
                lines++;
                starts[lines] = size;
                more = t.takesSign(';');
            }
            // What is left is no law's, or a line too many.
            if (more || !t.isEnd()) {
                return null;
            }
            return new Law(lines, draws, amounts, starts, Arrays.copyOf(code, size));
        }

        private boolean readLine(Text t, int line) {
            boolean draw = t.isWord("draw");
            if (!draw && !t.isWord("put")) {
                return false;
            }
            t.step();
            if (!t.isNumber(FIGURES, 0, 99)) {
                return false;
            }
            amounts[line] = t.value;
            draws |= draw ? 1 << line : 0;
            t.step();
            return !t.takesWord("if") || readCondition(t, 0);
        }

        private boolean readCondition(Text t, int depth) {
            boolean and = false;
            boolean or = false;
            for (int atoms = 0; atoms < TAPE_SIZE; atoms++) {
                if (!readAtom(t, depth)) {
                    return false;
                }
                if (and) {
                    emit(AND);
                }
                and = t.isWord("and");
                if (!and) {
                    if (or) {
                        emit(OR);
                    }
                    or = t.isWord("or");
                }
                if (!and && !or) {
                    return true;
                }
                t.step();
            }
            return false;
        }

        private boolean readAtom(Text t, int depth) {
            boolean not = t.isWord("not");
            if (not || t.isSign('(')) {
                if (depth >= DEEPEST) {
                    return false;
                }
                t.step();
                return not ? readDenied(t, depth + 1) : readCondition(t, depth + 1) && t.takesSign(')');
            }
            if (t.takesWord("wet")) {
                emit(WET);
                return true;
            }
            if (t.takesWord("sunday")) {
                emit(SUNDAY);
                return true;
            }
            if (!readSum(t)) {
                return false;
            }
            boolean less = t.isSign('<');
            if (!less && !t.isSign('>')) {
                return false;
            }
            t.step();
            boolean right = readSum(t);
            emit(less ? LESS : MORE);
            return right;
        }

        private boolean readDenied(Text t, int depth) {
            if (!readAtom(t, depth)) {
                return false;
            }
            emit(NOT);
            return true;
        }

        private boolean readSum(Text t) {
            for (int parts = 0; parts < TAPE_SIZE; parts++) {
                int part = t.isNumber(FIGURES, 0, 999) ? t.value
                    : t.isWord("who") ? WHO
                    : t.isWord("pain") ? PAIN
                    : t.isWord("account") ? ACCOUNT
                    : t.isWord("bears") ? BEARS
                    : t.isWord("day") ? DAY
                    : NONE;
                if (part == NONE) {
                    return false;
                }
                emit(part);
                t.step();
                if (parts > 0) {
                    emit(ADD);
                }
                if (!t.isSign('+')) {
                    return true;
                }
                t.step();
            }
            return false;
        }

        private void emit(int op) {
            if (size < code.length) {
                code[size] = op;
                size++;
            }
        }
    }

    /** A law that was read; it never changes, so that states may share it. */
    private static final class Law {
        final int lines;
        final int draws;
        final int[] amounts;
        final int[] starts;
        final int[] code;

        Law(int lines, int draws, int[] amounts, int[] starts, int[] code) {
            this.lines = lines;
            this.draws = draws;
            this.amounts = amounts.clone();
            this.starts = starts.clone();
            this.code = code;
        }

        /** The sum of all lines of one kind (1 draws, 0 puts) that hold. */
        int sumOf(int kind, Course course) {
            int sum = 0;
            for (int line = 0; line < lines; line++) {
                if ((draws >> line & 1) == kind && holds(line, course)) {
                    sum += amounts[line];
                }
            }
            return sum;
        }

        private boolean holds(int line, Course course) {
            int[] stack = course.stack;
            int top = 0;
            for (int i = starts[line]; i < starts[line + 1]; i++) {
                int op = code[i];
                if (op < ADD) {
                    if (top >= stack.length) {
                        return false;
                    }
                    stack[top] = course.valueOf(op);
                    top++;
                } else if (op == NOT) {
                    if (top < 1) {
                        return false;
                    }
                    stack[top - 1] = 1 - stack[top - 1];
                } else {
                    if (top < 2) {
                        return false;
                    }
                    top--;
                    stack[top - 1] = joined(op, stack[top - 1], stack[top]);
                }
            }
            // A line without a condition has no code, and always holds.
            return top == 0 || stack[0] == 1;
        }

        private static int joined(int op, int a, int b) {
            switch (op) {
                case ADD:
                    return a + b;
                case LESS:
                    return a < b ? 1 : 0;
                case MORE:
                    return a > b ? 1 : 0;
                case AND:
                    return a & b;
                default:
                    return a | b;
            }
        }
    }

    /** Lets days pass over a state, and tells of the latest one what each put, drew and felt. */
    private static final class Course {
        final int[] ache = new int[MOST_PEOPLE];
        final int[] given = new int[MOST_PEOPLE];
        final int[] taken = new int[MOST_PEOPLE];
        final int[] felt = new int[MOST_PEOPLE];
        // An "and" and an "or" that wait at each depth, and a comparison, need fewer.
        final int[] stack = new int[64];
        boolean wet;
        int who;
        int bears;
        int account;
        int day;

        /** One day more, by draws or without rain and falls: on how many it was too much. */
        int pass(State s, boolean drawn) {
            day = s.day;
            wet = drawn && drawsBelow(s, s.rain);
            for (int p = 0; p < s.people; p++) {
                felt[p] = 0;
                if (s.isAlive(p)) {
                    boolean falls = drawn && drawsBelow(s, s.fall);
                    ache[p] = s.painOn(p, day) + (falls ? FALL_PAIN : 0);
                    decide(s, p);
                    settle(s, p);
                }
            }
            if ((day + 1) % 10 == 0) {
                addInterest(s);
            }
            if (s.accountsOf(s.everybody()) > s.vault) {
                breakBank(s);
            }
            s.day = s.dayIn(1);
            return howManyOver(s);
        }

        int firstOver(State s) {
            for (int p = 0; p < s.people; p++) {
                if (felt[p] > s.bears[p]) {
                    return p;
                }
            }
            return NONE;
        }

        void writeLog(State s, int ofDay) {
            for (int p = 0; p < s.people; p++) {
                if (felt[p] > s.bears[p]) {
                    s.log.add(ofDay, p, felt[p], s.bears[p]);
                }
            }
        }

        /** A part of a law for the person and the day that are looked at. */
        int valueOf(int part) {
            switch (part) {
                case WHO:
                    return who;
                case PAIN:
                    return who >= 0 && who < MOST_PEOPLE ? ache[who] : 0;
                case ACCOUNT:
                    return account;
                case BEARS:
                    return bears;
                case DAY:
                    return day;
                case WET:
                    return wet ? 1 : 0;
                case SUNDAY:
                    return day % WEEK == WEEK - 1 ? 1 : 0;
                default:
                    return part;
            }
        }

        private static boolean drawsBelow(State s, int bound) {
            s.seed = 1103515245 * s.seed + 12345;
            return (s.seed >>> 16 & 32767) % 100 < bound;
        }

        private void decide(State s, int p) {
            who = p;
            bears = s.bears[p];
            account = s.account[p];
            int puts = ache[p] - bears;
            int draws = bears - ache[p];
            if (s.failed) {
                puts = 0;
                draws = 0;
            } else if (s.law != null) {
                puts = s.law.sumOf(0, this);
                draws = s.law.sumOf(1, this);
            }
            given[p] = Math.max(0, Math.min(puts, ache[p]));
            taken[p] = Math.max(0, Math.min(draws, account));
        }

        private void settle(State s, int p) {
            int unfelt = Math.min(s.forged[p], taken[p]);
            s.forged[p] -= unfelt;
            int rest = s.account[p] + given[p] - taken[p];
            int above = Math.max(0, rest - FULL_ACCOUNT);
            s.account[p] = rest - above;
            felt[p] = ache[p] - given[p] + taken[p] - unfelt + above;
        }

        private static void addInterest(State s) {
            for (int p = 0; p < s.people; p++) {
                if (s.isAlive(p)) {
                    s.account[p] = s.withInterest(s.account[p]);
                }
            }
        }

        private void breakBank(State s) {
            s.failed = true;
            for (int p = 0; p < s.people; p++) {
                if (s.isAlive(p)) {
                    felt[p] += s.account[p] - s.forged[p];
                    s.account[p] = 0;
                    s.forged[p] = 0;
                }
            }
        }

        private int howManyOver(State s) {
            int over = 0;
            for (int p = 0; p < s.people; p++) {
                if (felt[p] > s.bears[p]) {
                    over++;
                }
            }
            return over;
        }
    }

    /** Cheques that are owed. */
    private static final class Debts {
        final int[] nets = new int[MOST_PEOPLE];
        final int[] sums = new int[MOST_SETS];
        final int[] groups = new int[MOST_SETS];

        /**
         * People whose nets come to 0 among themselves need a payment fewer than they are:
         * the more such groups all can be parted into, the fewer payments.
         */
        int fewestPayments(State s) {
            findNets(s);
            sums[0] = 0;
            groups[0] = 0;
            for (int set = 1; set <= s.everybody(); set++) {
                int best = 0;
                for (int p = 0; p < s.people; p++) {
                    if ((set >> p & 1) == 1) {
                        int rest = set & ~(1 << p);
                        best = Math.max(best, groups[rest]);
                        sums[set] = sums[rest] + nets[p];
                    }
                }
                groups[set] = sums[set] == 0 ? best + 1 : best;
            }
            return s.people - groups[s.everybody()];
        }

        /** Nets all that is owed: how many payments stand then. */
        int settle(State s) {
            findNets(s);
            Arrays.fill(s.owed, 0);
            // Each payment brings one net at least to 0, the last one two.
            for (int payments = 0; payments < MOST_PEOPLE; payments++) {
                int owing = 0;
                int due = 0;
                for (int p = 1; p < s.people; p++) {
                    owing = nets[p] < nets[owing] ? p : owing;
                    due = nets[p] > nets[due] ? p : due;
                }
                if (s.people == 0 || nets[due] <= 0) {
                    return payments;
                }
                int paid = Math.min(-nets[owing], nets[due]);
                nets[owing] += paid;
                nets[due] -= paid;
                s.owed[owing * MOST_PEOPLE + due] = paid;
            }
            return MOST_PEOPLE;
        }

        int shortestRing(State s, int person) {
            int reached = 1 << person;
            for (int steps = 1; steps <= s.people; steps++) {
                int next = 0;
                for (int p = 0; p < s.people; p++) {
                    next |= (reached >> p & 1) == 1 ? owedBy(s, p) : 0;
                }
                if ((next >> person & 1) == 1) {
                    return steps;
                }
                reached = next;
            }
            return NONE;
        }

        int mutual(State s) {
            int sum = 0;
            for (int p = 0; p < s.people; p++) {
                for (int q = 0; q < p; q++) {
                    sum += Math.min(s.owed[p * MOST_PEOPLE + q], s.owed[q * MOST_PEOPLE + p]);
                }
            }
            return sum;
        }

        private static int owedBy(State s, int p) {
            int bits = 0;
            for (int q = 0; q < s.people; q++) {
                bits |= s.owed[p * MOST_PEOPLE + q] > 0 ? 1 << q : 0;
            }
            return bits;
        }

        private void findNets(State s) {
            for (int p = 0; p < s.people; p++) {
                nets[p] = s.netOf(p);
            }
        }
    }

    /** Questions about sets of people. */
    private static final class Crowd {
        static int runFrom(State s, int starters) {
            int running = starters;
            for (int round = 0; round < s.people; round++) {
                int more = running;
                for (int p = 0; p < s.people; p++) {
                    if (s.isAlive(p) && s.account[p] > 0 && (s.hears[p] & running) != 0) {
                        more |= 1 << p;
                    }
                }
                if (more == running) {
                    return running;
                }
                running = more;
            }
            return running;
        }

        static int fewestToTell(State s) {
            int best = NONE;
            for (int set = 1; set <= s.everybody(); set++) {
                boolean alive = (set & ~s.alive) == 0;
                if (alive && isFewer(set, best) && s.accountsOf(runFrom(s, set)) > s.vault) {
                    best = set;
                }
            }
            return best;
        }

        static int greatestRun(State s) {
            int most = 0;
            for (int p = 0; p < s.people; p++) {
                if (s.isAlive(p)) {
                    most = Math.max(most, s.accountsOf(runFrom(s, 1 << p)));
                }
            }
            return most;
        }

        static int painTogether(State s, int who, int weekday) {
            int sum = 0;
            for (int p = 0; p < s.people; p++) {
                sum += (who >> p & 1) == 1 ? s.painOn(p, weekday) : 0;
            }
            return sum;
        }

        static int setsWithPain(State s, int sum, int weekday) {
            int found = 0;
            for (int set = 0; set <= s.everybody(); set++) {
                if (painTogether(s, set, weekday) == sum) {
                    found++;
                }
            }
            return found;
        }

        static int inAllSets(State s, int sum, int weekday) {
            int common = NONE;
            for (int set = 0; set <= s.everybody(); set++) {
                if (painTogether(s, set, weekday) == sum) {
                    common &= set;
                }
            }
            return common == NONE ? 0 : common;
        }

        static int whoCouldBear(State s, int sum) {
            int bits = 0;
            for (int p = 0; p < s.people; p++) {
                if (s.isAlive(p) && s.painOn(p, s.day) + sum <= s.bears[p]) {
                    bits |= 1 << p;
                }
            }
            return bits;
        }

        static int fewestBearers(State s) {
            int all = s.accountsOf(s.everybody());
            int best = NONE;
            for (int set = 0; set <= s.everybody(); set++) {
                boolean alive = (set & ~s.alive) == 0;
                if (alive && isFewer(set, best) && roomOf(s, set) >= all) {
                    best = set;
                }
            }
            return best;
        }

        static int quietDay(State s) {
            int quiet = 0;
            for (int weekday = 1; weekday < WEEK; weekday++) {
                if (painTogether(s, s.alive, weekday) < painTogether(s, s.alive, quiet)) {
                    quiet = weekday;
                }
            }
            return quiet;
        }

        static int evenPart(State s) {
            int best = 0;
            for (int set = 1; set <= s.everybody(); set++) {
                if ((set & ~s.alive) == 0 && partedBy(s, set) < partedBy(s, best)) {
                    best = set;
                }
            }
            return best;
        }

        static int partedBy(State s, int set) {
            return Math.abs(s.accountsOf(set) - s.accountsOf(s.alive & ~set));
        }

        private static boolean isFewer(int set, int best) {
            return best == NONE || Integer.bitCount(set) < Integer.bitCount(best);
        }

        private static int roomOf(State s, int set) {
            int sum = 0;
            for (int p = 0; p < s.people; p++) {
                if ((set >> p & 1) == 1) {
                    sum += Math.max(0, s.bears[p] - s.painOn(p, s.day));
                }
            }
            return sum;
        }
    }

    /** Questions about one or two, and what they bear by the days. */
    private static final class Burdens {
        static int worstDay(State s, int p) {
            int worst = 0;
            for (int weekday = 1; weekday < WEEK; weekday++) {
                if (s.painOn(p, weekday) > s.painOn(p, worst)) {
                    worst = weekday;
                }
            }
            return worst;
        }

        static int will(State s, int heir) {
            int sum = 0;
            for (int p = 0; p < s.people; p++) {
                // The dead cannot die now: what they may still have goes to nobody.
                if (s.isAlive(p) && s.heir[p] == heir) {
                    sum += s.account[p];
                }
            }
            return sum;
        }

        static int heirs(State s, int p) {
            int bits = 0;
            int next = s.heir[p];
            for (int steps = 0; steps < MOST_PEOPLE && next >= 0 && next < MOST_PEOPLE; steps++) {
                bits |= 1 << next;
                next = s.heir[next];
            }
            return bits;
        }

        static int leastBorne(State s, int p, int n) {
            int low = 0;
            // So much is enough even on one day of the greatest pain.
            int high = s.account[p] == 0 ? 0 : s.account[p] + 9;
            for (int halvings = 0; halvings < 32 && low < high; halvings++) {
                int middle = (low + high) / 2;
                if (roomUnder(s, p, n, middle) >= s.account[p]) {
                    high = middle;
                } else {
                    low = middle + 1;
                }
            }
            return low;
        }

        static int partOn(State s, int p, int least, int k) {
            int before = roomUnder(s, p, k, least);
            int then = roomUnder(s, p, k + 1, least);
            return Math.min(then, s.account[p]) - Math.min(before, s.account[p]);
        }

        static int interestOver(State s, int p, int n) {
            int sum = s.account[p];
            for (int i = 0; i < n; i++) {
                if ((s.dayIn(i) + 1) % 10 == 0) {
                    sum = s.withInterest(sum);
                }
            }
            return sum - s.account[p];
        }

        static int roomOfTwo(State s, int p, int q, int day) {
            return s.bears[p] + s.bears[q] - s.painOn(p, day) - s.painOn(q, day);
        }

        static int daysOfTwo(State s, int p, int q) {
            int rest = s.account[p] + s.account[q];
            for (int days = 0; days <= MOST_PLANNED; days++) {
                if (rest <= 0) {
                    return days;
                }
                rest -= Math.max(0, roomOfTwo(s, p, q, s.dayIn(days)));
            }
            return NONE;
        }

        private static int roomUnder(State s, int p, int n, int most) {
            int sum = 0;
            for (int i = 0; i < n; i++) {
                sum += Math.max(0, most - s.painOn(p, s.dayIn(i)));
            }
            return sum;
        }
    }
}
