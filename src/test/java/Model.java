import java.util.ArrayList;
import java.util.List;

/** The document told once more, slowly and with the Java library, so that random runs can be compared. */
final class Model {
    /** A text is wrong from this byte on. */
    static final class Wrong extends RuntimeException {
        private static final long serialVersionUID = 1L;
        final int at;

        Wrong(int at) {
            this.at = at;
        }
    }

    static final class Person {
        int bears;
        int[] pain = new int[7];
        int account;
        int forged;
        boolean alive = true;
        int heir = -1;
        int hears;
        int felt;
        int put;
        int drawn;

        Person copy() {
            Person p = new Person();
            p.bears = bears;
            p.pain = pain;
            p.account = account;
            p.forged = forged;
            p.alive = alive;
            p.heir = heir;
            p.hears = hears;
            return p;
        }
    }

    private record Token(char kind, int at, String text) {
        int number() {
            return text.length() > 8 ? 99999999 : Integer.parseInt(text);
        }

        boolean is(String word) {
            return text.equals(word);
        }
    }

    private interface Cond {
        boolean holds(Model m, int who, int pain, boolean wet);
    }

    private interface Sum {
        long of(Model m, int who, int pain);
    }

    private record Rule(boolean draw, int n, Cond cond) {
    }

    List<Person> people = new ArrayList<>();
    int[][] owed = new int[8][8];
    int vault = 999;
    int rate = 2;
    int rain;
    int fall;
    int day;
    int seed = 1;
    int texts;
    int times;
    boolean failed;
    List<Rule> law;
    List<int[]> log = new ArrayList<>();
    int total;

    Model copy() {
        Model m = new Model();
        for (Person p : people) {
            m.people.add(p.copy());
        }
        for (int i = 0; i < 8; i++) {
            m.owed[i] = owed[i].clone();
        }
        m.vault = vault;
        m.rate = rate;
        m.rain = rain;
        m.fall = fall;
        m.day = day;
        m.seed = seed;
        m.texts = texts;
        m.times = times;
        m.failed = failed;
        m.law = law;
        m.log = new ArrayList<>(log);
        return m;
    }

    // ---- texts

    private static final class Reader {
        final List<Token> tokens = new ArrayList<>();
        int at;

        Reader(String text) {
            int i = 0;
            while (i < text.length()) {
                char c = text.charAt(i);
                int from = i;
                if (c == ' ') {
                    i++;
                    continue;
                }
                String part = text.substring(i);
                if (c >= 'a' && c <= 'z') {
                    i += part.length() - part.replaceFirst("^[a-z]+", "").length();
                    tokens.add(new Token('w', from, text.substring(from, i)));
                } else if (c >= '0' && c <= '9') {
                    i += part.length() - part.replaceFirst("^[0-9]+", "").length();
                    tokens.add(new Token('n', from, text.substring(from, i)));
                } else {
                    i++;
                    tokens.add(new Token('s', from, text.substring(from, i)));
                }
            }
            tokens.add(new Token('e', text.length(), "\0"));
        }

        Token peek() {
            return tokens.get(at);
        }

        Token next() {
            return tokens.get(at++);
        }

        void need(String word) {
            if (!peek().is(word)) {
                throw new Wrong(peek().at);
            }
            at++;
        }

        int number(int digits, int low, int high) {
            Token t = next();
            if (t.kind != 'n' || t.text.length() > digits || t.number() < low || t.number() > high) {
                throw new Wrong(t.at);
            }
            return t.number();
        }

        int person(Model m, int but) {
            Token t = peek();
            int n = number(5, 0, m.people.size() - 1);
            if (n == but) {
                throw new Wrong(t.at);
            }
            return n;
        }
    }

    /** The model after a text of the bank. */
    Model told(String text) {
        Model m = copy();
        Reader r = new Reader(text);
        int lines = 0;
        while (r.peek().kind != 'e' || lines > 0) {
            if (++lines > 14) {
                throw new Wrong(r.peek().at);
            }
            m.line(r);
            if (r.peek().kind == 'e') {
                break;
            }
            r.need(";");
        }
        m.texts++;
        return m;
    }

    private void line(Reader r) {
        Token t = r.next();
        if (t.kind != 'w') {
            throw new Wrong(t.at);
        }
        switch (t.text) {
            case "person" -> {
                if (people.size() == 8) {
                    throw new Wrong(t.at);
                }
                Person p = new Person();
                r.need("bears");
                p.bears = r.number(5, 1, 99);
                r.need("pain");
                Token f = r.next();
                if (f.kind != 'n' || f.text.length() != 7) {
                    throw new Wrong(f.at);
                }
                for (int i = 0; i < 7; i++) {
                    p.pain[i] = f.text.charAt(i) - '0';
                }
                people.add(p);
            }
            case "account" -> {
                Person p = people.get(r.person(this, -1));
                p.account = r.number(5, 0, 99999);
                p.forged = 0;
            }
            case "heir" -> {
                int p = r.person(this, -1);
                people.get(p).heir = r.person(this, p);
            }
            case "hears" -> {
                int p = r.person(this, -1);
                people.get(p).hears |= 1 << r.person(this, p);
            }
            case "owes" -> {
                int p = r.person(this, -1);
                int q = r.person(this, p);
                owed[p][q] = r.number(5, 0, 9999);
            }
            case "forged" -> {
                Person p = people.get(r.person(this, -1));
                p.forged = r.number(5, 0, p.account);
            }
            case "dead" -> people.get(r.person(this, -1)).alive = false;
            case "vault" -> vault = r.number(5, 0, 99999);
            case "rate" -> rate = r.number(5, 0, 20);
            case "rain" -> rain = r.number(5, 0, 100);
            case "fall" -> fall = r.number(5, 0, 100);
            default -> throw new Wrong(t.at);
        }
    }

    /** The rules of a law. */
    static List<Rule> ruled(String text) {
        List<Rule> rules = new ArrayList<>();
        Reader r = new Reader(text);
        while (r.peek().kind != 'e' || !rules.isEmpty()) {
            Token t = r.next();
            if (rules.size() == 12 || !t.is("put") && !t.is("draw")) {
                throw new Wrong(t.at);
            }
            int n = r.number(3, 0, 99);
            Cond c = (m, who, pain, wet) -> true;
            if (r.peek().is("if")) {
                r.next();
                c = any(r, 0);
            }
            rules.add(new Rule(t.is("draw"), n, c));
            if (r.peek().kind == 'e') {
                break;
            }
            r.need(";");
        }
        return rules;
    }

    private static Cond any(Reader r, int deep) {
        Cond c = all(r, deep);
        while (r.peek().is("or")) {
            r.next();
            Cond a = c;
            Cond b = all(r, deep);
            c = (m, who, pain, wet) -> a.holds(m, who, pain, wet) || b.holds(m, who, pain, wet);
        }
        return c;
    }

    private static Cond all(Reader r, int deep) {
        Cond c = atom(r, deep);
        while (r.peek().is("and")) {
            r.next();
            Cond a = c;
            Cond b = atom(r, deep);
            c = (m, who, pain, wet) -> a.holds(m, who, pain, wet) && b.holds(m, who, pain, wet);
        }
        return c;
    }

    private static Cond atom(Reader r, int deep) {
        Token t = r.peek();
        if (t.is("not") || t.is("(")) {
            if (deep == 6) {
                throw new Wrong(t.at);
            }
            r.next();
            if (t.is("not")) {
                Cond c = atom(r, deep + 1);
                return (m, who, pain, wet) -> !c.holds(m, who, pain, wet);
            }
            Cond c = any(r, deep + 1);
            r.need(")");
            return c;
        }
        if (t.is("wet")) {
            r.next();
            return (m, who, pain, wet) -> wet;
        }
        if (t.is("sunday")) {
            r.next();
            return (m, who, pain, wet) -> m.day % 7 == 6;
        }
        Sum a = sum(r);
        Token sign = r.next();
        if (!sign.is("<") && !sign.is(">")) {
            throw new Wrong(sign.at);
        }
        Sum b = sum(r);
        return (m, who, pain, wet) -> sign.is("<") ? a.of(m, who, pain) < b.of(m, who, pain) : a.of(m, who, pain) > b.of(m, who, pain);
    }

    private static Sum sum(Reader r) {
        Sum s = part(r);
        while (r.peek().is("+")) {
            r.next();
            Sum a = s;
            Sum b = part(r);
            s = (m, who, pain) -> a.of(m, who, pain) + b.of(m, who, pain);
        }
        return s;
    }

    private static Sum part(Reader r) {
        Token t = r.peek();
        if (t.kind == 'n') {
            int n = r.number(3, 0, 999);
            return (m, who, pain) -> n;
        }
        r.next();
        return switch (t.text) {
            case "who" -> (m, who, pain) -> who;
            case "pain" -> (m, who, pain) -> pain;
            case "account" -> (m, who, pain) -> m.people.get(who).account;
            case "bears" -> (m, who, pain) -> m.people.get(who).bears;
            case "day" -> (m, who, pain) -> m.day;
            default -> throw new Wrong(t.at);
        };
    }

    // ---- days

    private int drawn() {
        seed = seed * 1103515245 + 12345;
        return (seed & 0x7fff0000) >> 16;
    }

    /** One day more: on how many it was too much. */
    int day(boolean chance) {
        boolean wet = chance && drawn() % 100 < rain;
        int[] pain = new int[8];
        for (int i = 0; i < people.size(); i++) {
            Person p = people.get(i);
            p.felt = 0;
            p.put = 0;
            p.drawn = 0;
            if (p.alive) {
                pain[i] = p.pain[day % 7];
                if (chance && drawn() % 100 < fall) {
                    pain[i] += 5;
                }
            }
        }
        for (int i = 0; i < people.size(); i++) {
            if (people.get(i).alive) {
                one(i, pain[i], wet);
            }
        }
        if ((day + 1) % 10 == 0) {
            for (Person p : people) {
                if (p.alive) {
                    p.account = (int) Math.min(99999, p.account + (long) Math.ceil(p.account * (long) rate / 100.0));
                }
            }
        }
        total = accounts();
        if (total > vault) {
            failed = true;
            for (Person p : people) {
                if (p.alive) {
                    p.felt += p.account - p.forged;
                    p.account = 0;
                    p.forged = 0;
                }
            }
        }
        int over = 0;
        for (int i = 0; i < people.size(); i++) {
            Person p = people.get(i);
            if (p.felt > p.bears) {
                over++;
                log.add(0, new int[] {day, i, p.felt, p.bears});
                if (log.size() > 60) {
                    log.remove(60);
                }
            }
        }
        times += over;
        day = Math.min(9999, day + 1);
        return over;
    }

    private void one(int who, int pain, boolean wet) {
        Person p = people.get(who);
        int put = 0;
        int draw = 0;
        if (!failed && law == null) {
            put = Math.max(0, pain - p.bears);
            draw = Math.max(0, p.bears - pain);
        } else if (!failed) {
            for (Rule rule : law) {
                if (rule.cond.holds(this, who, pain, wet)) {
                    put += rule.draw ? 0 : rule.n;
                    draw += rule.draw ? rule.n : 0;
                }
            }
        }
        p.put = Math.min(put, pain);
        p.drawn = Math.min(draw, p.account);
        p.felt = pain - p.put;
        for (int i = 0; i < p.drawn; i++) {
            p.account--;
            if (p.forged > 0) {
                p.forged--;
            } else {
                p.felt++;
            }
        }
        for (int i = 0; i < p.put; i++) {
            if (p.account < 99999) {
                p.account++;
            } else {
                p.felt++;
            }
        }
    }

    int accounts() {
        return people.stream().mapToInt(p -> p.account).sum();
    }

    int accountsOf(int bits) {
        int sum = 0;
        for (int i = 0; i < people.size(); i++) {
            sum += (bits >> i & 1) * people.get(i).account;
        }
        return sum;
    }

    int alive() {
        int bits = 0;
        for (int i = 0; i < people.size(); i++) {
            bits |= people.get(i).alive ? 1 << i : 0;
        }
        return bits;
    }

    int painOf(int person, int in) {
        return people.get(person).pain[Math.min(9999, day + in) % 7];
    }

    // ---- debts

    int netOf(int p) {
        int sum = 0;
        for (int q = 0; q < 8; q++) {
            sum += owed[q][p] - owed[p][q];
        }
        return sum;
    }

    int netted() {
        List<Integer> nets = new ArrayList<>();
        for (int p = 0; p < people.size(); p++) {
            if (netOf(p) != 0) {
                nets.add(netOf(p));
            }
        }
        return fewest(nets);
    }

    /** The first one's debt goes whole to another one: so some fewest way begins. */
    private static int fewest(List<Integer> nets) {
        if (nets.isEmpty()) {
            return 0;
        }
        int best = Integer.MAX_VALUE;
        for (int i = 1; i < nets.size(); i++) {
            if (Integer.signum(nets.get(0)) != Integer.signum(nets.get(i))) {
                List<Integer> rest = new ArrayList<>(nets.subList(1, nets.size()));
                int left = nets.get(0) + nets.get(i);
                rest.remove(i - 1);
                if (left != 0) {
                    rest.add(left);
                }
                best = Math.min(best, 1 + fewest(rest));
            }
        }
        return best;
    }

    int net() {
        int n = people.size();
        int[] nets = new int[n];
        for (int p = 0; p < n; p++) {
            nets[p] = netOf(p);
        }
        owed = new int[8][8];
        int payments = 0;
        while (true) {
            int low = -1;
            int high = -1;
            for (int p = n - 1; p >= 0; p--) {
                low = nets[p] < 0 && (low < 0 || nets[p] <= nets[low]) ? p : low;
                high = nets[p] > 0 && (high < 0 || nets[p] >= nets[high]) ? p : high;
            }
            if (low < 0) {
                return payments;
            }
            int much = Math.min(-nets[low], nets[high]);
            owed[low][high] += much;
            nets[low] += much;
            nets[high] -= much;
            payments++;
        }
    }

    int ring(int p) {
        int best = way(p, p, 0, 0);
        return best > 8 ? -1 : best;
    }

    private int way(int from, int to, int seen, int steps) {
        int best = 99;
        for (int q = 0; q < people.size(); q++) {
            if (owed[from][q] > 0 && (seen >> q & 1) == 0) {
                best = Math.min(best, q == to ? steps + 1 : way(q, to, seen | 1 << q, steps + 1));
            }
        }
        return best;
    }

    // ---- sets

    int run(int bits) {
        for (int i = 0; i < people.size(); i++) {
            Person p = people.get(i);
            if ((bits >> i & 1) == 0 && p.alive && p.account > 0 && (p.hears & bits) != 0) {
                return run(bits | 1 << i);
            }
        }
        return bits;
    }

    int spark() {
        for (int size = 0; size <= 8; size++) {
            for (int set = 0; set < 1 << people.size(); set++) {
                if (Integer.bitCount(set) == size && (set & alive()) == set && accountsOf(run(set)) > vault) {
                    return set;
                }
            }
        }
        return -1;
    }

    int fewestBearers() {
        for (int size = 0; size <= 8; size++) {
            for (int set = 0; set < 1 << people.size(); set++) {
                int room = 0;
                for (int p = 0; p < people.size(); p++) {
                    room += (set >> p & 1) * Math.max(0, people.get(p).bears - painOf(p, 0));
                }
                if (Integer.bitCount(set) == size && (set & alive()) == set && room >= accounts()) {
                    return set;
                }
            }
        }
        return -1;
    }

    int parted(boolean part) {
        int best = -1;
        int by = Integer.MAX_VALUE;
        for (int set = 0; set < 1 << people.size(); set++) {
            if ((set & alive()) == set) {
                int differs = Math.abs(2 * accountsOf(set) - accountsOf(alive()));
                if (differs < by) {
                    by = differs;
                    best = set;
                }
            }
        }
        return part ? best : by;
    }

    int saint(int sum, int weekday, boolean sure) {
        int sets = 0;
        int common = 255;
        for (int set = 0; set < 1 << people.size(); set++) {
            int felt = 0;
            for (int p = 0; p < people.size(); p++) {
                felt += (set >> p & 1) * people.get(p).pain[weekday];
            }
            if (felt == sum) {
                sets++;
                common &= set;
            }
        }
        return sure ? (sets == 0 ? 0 : common) : sets;
    }

    // ---- plans

    int plan(int p, int n, int k) {
        if (k < -1 || k >= n) {
            return -1;
        }
        for (int least = 0;; least++) {
            int rest = people.get(p).account;
            int part = least;
            for (int i = 0; i < n; i++) {
                int now = Math.min(rest, Math.max(0, least - painOf(p, i)));
                rest -= now;
                part = i == k ? now : part;
            }
            if (rest == 0) {
                return part;
            }
        }
    }

    int cost(int p, int n) {
        if (!people.get(p).alive) {
            return 0;
        }
        long sum = people.get(p).account;
        for (int i = 0; i < n; i++) {
            if (Math.min(9999, day + i) % 10 == 9) {
                sum = Math.min(99999, sum + (long) Math.ceil(sum * rate / 100.0));
            }
        }
        return (int) sum - people.get(p).account;
    }

    int shares(int p, int q) {
        int rest = people.get(p).account + people.get(q).account;
        if (rest == 0) {
            return 0;
        }
        for (int i = 1; i <= 40; i++) {
            int room = people.get(p).bears + people.get(q).bears - painOf(p, i - 1) - painOf(q, i - 1);
            rest -= Math.max(0, room);
            if (rest <= 0) {
                return i;
            }
        }
        return -1;
    }
}
