import java.util.ArrayDeque;
import java.util.ArrayList;
import java.util.Deque;
import java.util.List;
import java.util.NoSuchElementException;
import java.util.Random;

/** Random runs of up to 512 calls, each answer compared with the model's; no other exception than the due one comes. */
public final class FuzzTest {
    private static final int RUNS = 600;
    private static final long IOOB = Long.MIN_VALUE;
    private static final long ARG = Long.MIN_VALUE + 1;
    private static final long STATE = Long.MIN_VALUE + 2;
    private static final long ELEMENT = Long.MIN_VALUE + 3;
    private static final long MANY = Long.MIN_VALUE + 4;
    private static final long OTHER = Long.MIN_VALUE + 5;

    private final Random random;
    private final PainBank bank = new PainBank();
    private Model m = new Model();
    private Model image;
    private final Deque<Model> memory = new ArrayDeque<>();
    private int fault = -1;
    private final List<String> told = new ArrayList<>();
    private final long number;
    private boolean wild;

    private FuzzTest(long number) {
        this.number = number;
        this.random = new Random(number);
    }

    public static void main(String[] args) {
        int runs = args.length > 0 ? Integer.parseInt(args[0]) : RUNS;
        for (long number = 1; number <= runs; number++) {
            new FuzzTest(number).go();
        }
        Check.finish();
    }

    private void go() {
        wild = random.nextInt(4) == 0;
        tellPeople();
        // A step makes 25 calls at most, and an object is used for 512.
        while (calls < 487) {
            step();
            if (mismatch) {
                System.out.println("run " + number + " after " + told);
                return;
            }
        }
    }

    private boolean mismatch;
    private int calls;

    private long of(Check.Call call) {
        try {
            return call.answer();
        } catch (IndexOutOfBoundsException e) {
            return e.getClass() == IndexOutOfBoundsException.class ? IOOB : OTHER;
        } catch (IllegalArgumentException e) {
            return e.getClass() == IllegalArgumentException.class ? ARG : OTHER;
        } catch (IllegalStateException e) {
            return STATE;
        } catch (NoSuchElementException e) {
            return ELEMENT;
        } catch (UnsupportedOperationException e) {
            return MANY;
        } catch (RuntimeException e) {
            return OTHER;
        }
    }

    private void same(String call, long want, Check.Call got) {
        calls++;
        long answer = of(got);
        told.add(call + " = " + answer);
        Check.due("run " + number + ": " + call, answer, want);
        mismatch |= answer != want;
    }

    private int any(int low, int high) {
        return low + random.nextInt(high - low + 1);
    }

    private int person() {
        int n = m.people.size();
        return random.nextInt(12) == 0 ? any(-1, 9) : n == 0 ? 0 : random.nextInt(n);
    }

    private int number(int low, int high) {
        int kind = random.nextInt(14);
        return kind == 0 ? low - 1 : kind == 1 ? high + 1 : kind == 2 ? high : kind == 3 ? low : any(low, high);
    }

    private boolean is(int p) {
        return p >= 0 && p < m.people.size();
    }

    private boolean dead(int p) {
        return !m.people.get(p).alive;
    }

    private void act() {
        memory.addLast(m.copy());
        if (memory.size() > 12) {
            memory.removeFirst();
        }
    }

    // ---- texts

    private void tellPeople() {
        StringBuilder text = new StringBuilder();
        int n = any(1, 8);
        for (int i = 0; i < n; i++) {
            text.append(i > 0 ? ";" : "").append(personLine());
        }
        bankText(text.toString());
    }

    private String personLine() {
        StringBuilder line = new StringBuilder("person bears ").append(any(1, random.nextBoolean() ? 12 : 99)).append(" pain ");
        for (int i = 0; i < 7; i++) {
            line.append(any(0, random.nextBoolean() ? 9 : 3));
        }
        return line.toString();
    }

    private int amount() {
        return switch (random.nextInt(6)) {
            case 0 -> any(99900, 99999);
            case 1 -> any(0, 3);
            case 2 -> any(0, 3000);
            default -> any(0, 60);
        };
    }

    private String bankLine() {
        int n = Math.max(1, m.people.size());
        int p = random.nextInt(n);
        int q = random.nextInt(n);
        return switch (random.nextInt(13)) {
            case 0 -> personLine();
            case 1, 2, 3 -> "account " + p + " " + amount();
            case 4 -> "heir " + p + " " + q;
            case 5, 6 -> "hears " + p + " " + q;
            case 7 -> "vault " + any(0, random.nextBoolean() ? 99999 : 150);
            case 8 -> "rate " + any(0, 20);
            case 9 -> "rain " + any(0, 100) + ";fall " + any(0, 100);
            case 10 -> "owes " + p + " " + q + " " + any(0, random.nextBoolean() ? 9999 : 5);
            case 11 -> "forged " + p + " " + any(0, is(p) ? m.people.get(p).account : 0);
            default -> random.nextInt(4) == 0 ? "dead " + p : "vault 99999";
        };
    }

    private String condition(int deep) {
        StringBuilder s = new StringBuilder();
        int n = random.nextInt(3) == 0 ? 3 : random.nextInt(2) + 1;
        for (int i = 0; i < n; i++) {
            s.append(i == 0 ? "" : random.nextBoolean() ? " and " : " or ").append(atom(deep));
        }
        return s.toString();
    }

    private String atom(int deep) {
        return switch (random.nextInt(deep > 7 ? 3 : 6)) {
            case 0 -> "wet";
            case 1 -> "sunday";
            case 2, 3 -> sum() + (random.nextBoolean() ? "<" : " > ") + sum();
            case 4 -> "not " + atom(deep + 1);
            default -> "(" + condition(deep + 1) + ")";
        };
    }

    private String sum() {
        String[] parts = {"who", "pain", "account", "bears", "day", "" + any(0, 9), "" + any(0, 999)};
        String s = parts[random.nextInt(parts.length)];
        return random.nextInt(3) == 0 ? s + "+" + parts[random.nextInt(parts.length)] : s;
    }

    private String lawText() {
        StringBuilder s = new StringBuilder();
        int n = random.nextInt(random.nextInt(8) == 0 ? 14 : 5);
        for (int i = 0; i < n; i++) {
            s.append(i > 0 ? ";" : "").append(random.nextBoolean() ? "put " : "draw ").append(any(0, random.nextBoolean() ? 99 : 9));
            if (random.nextBoolean()) {
                s.append(" if ").append(condition(0));
            }
        }
        return s.toString();
    }

    private String bent(String text) {
        StringBuilder s = new StringBuilder(text);
        String signs = "  ;;()<>+-0123456789aeinrtw" + (char) 0 + (char) 255;
        for (int i = any(1, 2); i > 0 && s.length() > 0; i--) {
            int at = random.nextInt(s.length());
            char sign = signs.charAt(random.nextInt(signs.length()));
            switch (random.nextInt(4)) {
                case 0 -> s.insert(at, sign);
                case 1 -> s.deleteCharAt(at);
                case 2 -> s.setCharAt(at, sign);
                default -> s.setLength(at);
            }
        }
        return s.toString();
    }

    private void bankText(String text) {
        if (text.length() > 400) {
            text = text.substring(0, 400);
        }
        calls += (text.length() + 19) / 20 + 2;
        Check.feed(bank, text);
        long want;
        try {
            Model next = m.told(text);
            fault = -1;
            want = m.texts == 12 ? MANY : next.texts;
            if (m.texts < 12) {
                m = next;
                memory.clear();
            }
        } catch (Model.Wrong e) {
            fault = e.at;
            want = ARG;
        }
        same("bank " + text, want, bank::bank);
        same("fault", fault, bank::fault);
    }

    private void lawOf(String text) {
        if (text.length() > 400) {
            text = text.substring(0, 400);
        }
        calls += (text.length() + 19) / 20 + 2;
        Check.feed(bank, text);
        long want;
        try {
            m.law = Model.ruled(text);
            want = m.law.size();
            fault = -1;
            memory.clear();
        } catch (Model.Wrong e) {
            fault = e.at;
            want = ARG;
        }
        same("law " + text, want, bank::law);
        same("fault", fault, bank::fault);
    }

    // ---- calls

    private void step() {
        switch (random.nextInt(wild ? 12 : 20)) {
            case 0:
                StringBuilder text = new StringBuilder();
                for (int i = any(0, random.nextInt(8) == 0 ? 15 : 4); i >= 0; i--) {
                    text.append(bankLine()).append(i > 0 ? random.nextBoolean() ? ";" : " ; " : "");
                }
                bankText(random.nextInt(3) == 0 ? bent(text.toString()) : text.toString());
                break;
            case 1:
                String law = lawText();
                lawOf(random.nextInt(3) == 0 ? bent(law) : law);
                break;
            case 2:
            case 3:
            case 4:
                acts();
                break;
            case 5:
                memories();
                break;
            case 6:
            case 7:
                people();
                break;
            case 8:
            case 9:
                days();
                break;
            default:
                sets();
        }
    }

    private void acts() {
        int p = person();
        int q = person();
        int n = random.nextInt(3) == 0 ? number(1, 9999) : number(1, 30);
        switch (random.nextInt(8)) {
            case 0:
                putCall(p, n);
                break;
            case 1:
                drawCall(p, n);
                break;
            case 2:
                chequeCall(p, q, n);
                break;
            case 3:
                oweCall(p, q, number(1, 999));
                break;
            case 4:
                act();
                same("net", m.net(), bank::net);
                break;
            case 5:
                if (random.nextInt(4) == 0) {
                    dieCall(p);
                }
                break;
            case 6:
                int others = random.nextInt();
                if (!is(p)) {
                    same("hear", IOOB, () -> bank.hear(p, others));
                } else {
                    act();
                    int was = m.people.get(p).hears;
                    m.people.get(p).hears = others & (1 << m.people.size()) - 1 & ~(1 << p);
                    same("hear " + p + " " + others, was, () -> bank.hear(p, others));
                }
                break;
            default:
                act();
                boolean failed = m.failed;
                m.failed = false;
                same("refound", failed ? 1 : 0, () -> bank.refound() ? 1 : 0);
        }
    }

    private void putCall(int p, int n) {
        long want;
        if (!is(p)) {
            want = IOOB;
        } else if (n < 1 || n > 9999 || m.people.get(p).account + n > 99999) {
            want = ARG;
        } else if (dead(p) || m.failed) {
            want = STATE;
        } else {
            act();
            want = m.people.get(p).account += n;
        }
        same("put " + p + " " + n, want, () -> bank.put(p, n));
    }

    private void drawCall(int p, int n) {
        long want;
        if (!is(p)) {
            want = IOOB;
        } else if (n < 1 || n > m.people.get(p).account) {
            want = ARG;
        } else if (dead(p) || m.failed) {
            want = STATE;
        } else {
            act();
            Model.Person x = m.people.get(p);
            x.account -= n;
            want = Math.max(0, n - x.forged);
            x.forged = Math.max(0, x.forged - n);
        }
        same("draw " + p + " " + n, want, () -> bank.draw(p, n));
    }

    private void chequeCall(int p, int q, int n) {
        long want;
        if (!is(p) || !is(q)) {
            want = IOOB;
        } else if (p == q || n < 1 || n > m.people.get(p).account || m.people.get(q).account + n > 99999) {
            want = ARG;
        } else if (dead(p) || dead(q) || m.failed) {
            want = STATE;
        } else {
            act();
            Model.Person x = m.people.get(p);
            Model.Person y = m.people.get(q);
            x.account -= n;
            y.account += n;
            if (x.forged > x.account) {
                y.forged += x.forged - x.account;
                x.forged = x.account;
            }
            want = y.account;
        }
        same("cheque " + p + " " + q + " " + n, want, () -> bank.cheque(p, q, n));
    }

    private void oweCall(int p, int q, int n) {
        long want;
        if (!is(p) || !is(q)) {
            want = IOOB;
        } else if (p == q || n < 1 || n > 999) {
            want = ARG;
        } else if (m.owed[p][q] + n > 9999) {
            want = STATE;
        } else {
            act();
            want = m.owed[p][q] += n;
        }
        same("owe " + p + " " + q + " " + n, want, () -> bank.owe(p, q, n));
    }

    private void dieCall(int p) {
        long want;
        if (!is(p)) {
            want = IOOB;
        } else if (dead(p)) {
            want = STATE;
        } else {
            act();
            Model.Person x = m.people.get(p);
            x.alive = false;
            want = x.heir >= 0 && !dead(x.heir) ? x.heir : -1;
            if (want >= 0) {
                Model.Person y = m.people.get((int) want);
                y.account = Math.min(99999, x.account + y.account);
                y.forged = Math.min(y.account, x.forged + y.forged);
            }
            x.account = 0;
            x.forged = 0;
        }
        same("die " + p, want, () -> bank.die(p));
    }

    private void memories() {
        switch (random.nextInt(7)) {
            case 0:
                image = m.copy();
                bank.image();
                calls++;
                told.add("image");
                break;
            case 1:
                same("back", image == null ? 0 : 1, () -> bank.back() ? 1 : 0);
                if (image != null) {
                    m = image.copy();
                    memory.clear();
                }
                break;
            case 2:
                int n = random.nextInt();
                same("seed " + n, m.seed, () -> bank.seed(n));
                m.seed = n;
                break;
            default:
                same("undo", memory.isEmpty() ? 0 : 1, () -> bank.undo() ? 1 : 0);
                if (!memory.isEmpty()) {
                    m = memory.removeLast();
                }
        }
    }

    private void people() {
        int p = person();
        int q = person();
        int what = number(0, 9);
        switch (random.nextInt(6)) {
            case 0:
            case 1:
                same("person " + p + " " + what, told(p, what), () -> bank.person(p, what));
                break;
            case 2:
                int w = number(0, 6);
                same("pain", !is(p) || w < 0 || w > 6 ? IOOB : m.people.get(p).pain[w], () -> bank.pain(p, w));
                break;
            case 3:
                same("owed " + p + " " + q, !is(p) || !is(q) ? IOOB : p == q ? ARG : m.owed[p][q], () -> bank.owed(p, q));
                break;
            case 4:
                int k = number(0, 14);
                same("count " + k, count(k), () -> bank.count(k));
                break;
            default:
                int ago = random.nextBoolean() ? number(0, 59) : any(0, 3);
                int of = number(0, 3);
                same("log", of < 0 || of > 3 ? ELEMENT : ago < 0 || ago >= m.log.size() ? -1 : m.log.get(ago)[of], () -> bank.log(ago, of));
                same("led " + p, !is(p) ? IOOB : m.log.stream().filter(r -> r[1] == p).count(), () -> bank.led(p, false));
                same("led " + p, !is(p) ? IOOB : m.log.stream().filter(r -> r[1] == p).mapToInt(r -> r[2]).max().orElse(0), () -> bank.led(p, true));
        }
    }

    private long told(int p, int what) {
        if (!is(p)) {
            return IOOB;
        }
        Model.Person x = m.people.get(p);
        switch (what) {
            case 0:
                return x.bears;
            case 1:
                return x.account;
            case 2:
                return x.forged;
            case 3:
                return x.alive ? 1 : 0;
            case 4:
                return x.heir;
            case 5:
                return x.hears;
            case 6:
                return m.netOf(p);
            case 7:
                int worst = 6;
                for (int w = 6; w >= 0; w--) {
                    worst = x.pain[w] >= x.pain[worst] ? w : worst;
                }
                return worst;
            case 8:
                return m.people.stream().filter(y -> y.alive && y.heir == p).mapToInt(y -> y.account).sum();
            case 9:
                int bits = 0;
                for (int h = x.heir; h >= 0 && (bits >> h & 1) == 0; h = m.people.get(h).heir) {
                    bits |= 1 << h;
                }
                return bits;
            default:
                return ELEMENT;
        }
    }

    private long count(int what) {
        int[] all = {m.people.size(), m.alive(), m.texts, m.law == null ? -1 : m.law.size(), m.day, m.vault, m.rate, m.rain, m.fall,
            m.accounts(), m.people.stream().mapToInt(p -> p.forged).sum(), m.failed ? 1 : 0, m.times, m.log.size(), memory.size()};
        return what < 0 || what >= all.length ? -1 : all[what];
    }

    private Model gone(int n) {
        Model x = m.copy();
        for (int i = 0; i < n; i++) {
            x.day(false);
        }
        return x;
    }

    private void days() {
        int p = person();
        int n = random.nextBoolean() ? number(0, 60) : any(0, 12);
        boolean or = random.nextBoolean();
        boolean bad = n < 0 || n > 60;
        switch (random.nextInt(10)) {
            case 0:
            case 1:
                if (n >= 1 && n <= 60) {
                    act();
                    long sum = 0;
                    for (int i = 0; i < n; i++) {
                        sum += m.day(true);
                    }
                    same("days " + n, sum, () -> bank.days(n));
                } else {
                    same("days " + n, ARG, () -> bank.days(n));
                }
                break;
            case 2:
                same("ahead " + p + " " + n, !is(p) ? IOOB : bad ? ARG : gone(n).people.get(p).account, () -> bank.ahead(p, n));
                break;
            case 3:
                same("fails " + n, bad ? ARG : gone(n).failed ? 1 : 0, () -> bank.fails(n) ? 1 : 0);
                break;
            case 4:
                same("first " + or, first(or), () -> bank.first(or));
                break;
            case 5:
                same("peak " + p + " " + n + " " + or, peak(p, n, or), () -> bank.peak(p, n, or));
                break;
            case 6:
                int need = 0;
                Model x = m.copy();
                x.vault = 1 << 30;
                for (int i = 0; i < n; i++) {
                    x.day(false);
                    need = Math.max(need, x.total);
                }
                same("needed " + n, bad ? ARG : need, () -> bank.needed(n));
                break;
            case 7:
                same("trial " + n + " " + or, n < 0 || n > 40 ? ARG : trial(n, m.seed, or), () -> bank.trial(n, or));
                break;
            case 8:
                same("span " + n + " " + or, n < 0 || n > 40 ? ARG : span(n, or), () -> bank.span(n, or));
                break;
            default:
                int what = number(0, 2);
                same("today " + p + " " + what, today(p, what), () -> bank.today(p, what));
        }
    }

    private long today(int p, int what) {
        if (!is(p)) {
            return IOOB;
        }
        if (dead(p)) {
            return STATE;
        }
        Model.Person x = gone(1).people.get(p);
        return what == 0 ? x.put : what == 1 ? x.drawn : what == 2 ? x.felt : ELEMENT;
    }

    private long first(boolean who) {
        Model x = m.copy();
        for (int i = 1; i <= 60; i++) {
            if (x.day(false) > 0) {
                for (int p = 0; who; p++) {
                    if (x.people.get(p).felt > x.people.get(p).bears) {
                        return p;
                    }
                }
                return i;
            }
        }
        return -1;
    }

    private long peak(int p, int n, boolean when) {
        if (!is(p)) {
            return IOOB;
        }
        if (n < 1 || n > 60) {
            return ARG;
        }
        if (dead(p)) {
            return STATE;
        }
        Model x = m.copy();
        int[] felt = new int[n];
        int most = 0;
        for (int i = 0; i < n; i++) {
            x.day(false);
            felt[i] = x.people.get(p).felt;
            most = Math.max(most, felt[i]);
        }
        for (int i = 0; when; i++) {
            if (felt[i] == most) {
                return i;
            }
        }
        return most;
    }

    private long trial(int n, int seed, boolean accounts) {
        Model x = m.copy();
        x.seed = seed;
        int sum = 0;
        for (int i = 0; i < n; i++) {
            sum += x.day(true);
        }
        return accounts ? x.accounts() : sum;
    }

    private long span(int n, boolean most) {
        long answer = most ? 0 : 1 << 30;
        for (int seed = 1; seed <= 6; seed++) {
            long times = trial(n, seed, false);
            answer = most ? Math.max(answer, times) : Math.min(answer, times);
        }
        return answer;
    }

    private void sets() {
        int p = person();
        int q = person();
        boolean or = random.nextBoolean();
        switch (random.nextInt(19)) {
            case 0:
                int n = number(1, 40);
                int k = random.nextBoolean() ? -1 : number(0, 39);
                same("plan " + p + " " + n + " " + k, !is(p) ? IOOB : n < 1 || n > 40 ? ARG : m.plan(p, n, k), () -> bank.plan(p, n, k));
                break;
            case 1:
                int c = number(0, 60);
                same("cost " + p + " " + c, !is(p) ? IOOB : c < 0 || c > 60 ? ARG : m.cost(p, c), () -> bank.cost(p, c));
                break;
            case 2:
                same("netted", m.netted(), bank::netted);
                break;
            case 3:
                same("ring " + p, !is(p) ? IOOB : m.ring(p), () -> bank.ring(p));
                break;
            case 4:
                same("run " + p, !is(p) ? IOOB : dead(p) ? STATE : or ? m.accountsOf(m.run(1 << p)) : m.run(1 << p), () -> bank.run(p, or));
                break;
            case 5:
                same("spark", m.spark(), bank::spark);
                break;
            case 6:
                int most = 0;
                for (int i = 0; i < m.people.size(); i++) {
                    most = dead(i) ? most : Math.max(most, m.accountsOf(m.run(1 << i)));
                }
                same("reserve", most, bank::reserve);
                break;
            case 7:
                long such = m.people.stream().filter(x -> x.alive && x.account > 0).count();
                same("feelings", such < 2 ? 0 : 64 - Long.numberOfLeadingZeros(such - 1), bank::feelings);
                break;
            case 8:
                int w = number(0, 6);
                int sum = random.nextInt(10) == 0 ? -any(0, 5) : any(0, 30);
                same("saint " + sum + " " + w, w < 0 || w > 6 ? IOOB : m.saint(sum, w, or), () -> bank.saint(sum, w, or));
                break;
            case 9:
            case 10:
                two(p, q);
                break;
            case 11:
                same("could " + p, could(p), () -> bank.could(p));
                break;
            case 12:
                same("fewest", m.fewestBearers(), bank::fewest);
                break;
            case 13:
                same("quiet " + or, quiet(or), () -> bank.quiet(or));
                break;
            case 14:
                same("parted " + or, m.parted(or), () -> bank.parted(or));
                break;
            case 15:
                same("rank " + p, rank(p), () -> bank.rank(p));
                break;
            case 16:
                int strike = 0;
                for (int i = 0; i < 64; i++) {
                    strike += Math.min(m.owed[i / 8][i % 8], m.owed[i % 8][i / 8]);
                }
                same("strike", strike / 2, bank::strike);
                break;
            default:
                for (int i = 0; i <= 14; i++) {
                    int what = i;
                    same("count " + i, count(i), () -> bank.count(what));
                }
        }
    }

    private void two(int p, int q) {
        long wrong = !is(p) || !is(q) ? IOOB : p == q ? ARG : dead(p) || dead(q) ? STATE : 0;
        if (wrong != 0) {
            same("share " + p + " " + q, wrong, () -> bank.share(p, q) ? 1 : 0);
            same("shares " + p + " " + q, wrong, () -> bank.shares(p, q));
            return;
        }
        Model.Person x = m.people.get(p);
        Model.Person y = m.people.get(q);
        int all = x.account + y.account + m.painOf(p, 0) + m.painOf(q, 0);
        same("share " + p + " " + q, all <= x.bears + y.bears ? 1 : 0, () -> bank.share(p, q) ? 1 : 0);
        same("shares " + p + " " + q, m.shares(p, q), () -> bank.shares(p, q));
    }

    private long could(int p) {
        if (!is(p)) {
            return IOOB;
        }
        int bits = 0;
        for (int i = 0; i < m.people.size(); i++) {
            Model.Person x = m.people.get(i);
            bits |= x.alive && m.people.get(p).account + m.painOf(i, 0) <= x.bears ? 1 << i : 0;
        }
        return bits;
    }

    private long quiet(boolean much) {
        int best = 1 << 30;
        int when = 0;
        for (int w = 0; w < 7; w++) {
            int sum = 0;
            for (Model.Person x : m.people) {
                sum += x.alive ? x.pain[w] : 0;
            }
            when = sum < best ? w : when;
            best = Math.min(best, sum);
        }
        return much ? best : when;
    }

    private long rank(int p) {
        if (!is(p)) {
            return IOOB;
        }
        if (dead(p)) {
            return STATE;
        }
        Model x = gone(1);
        return x.people.stream().filter(y -> y.alive && y.felt > x.people.get(p).felt).count();
    }
}
