import java.util.ArrayList;
import java.util.List;
import java.util.NoSuchElementException;

/** Of several exceptions the one told first is thrown; a call that throws changes nothing but the tape, where it is used up. */
final class Refusals {
    private static final Class<? extends RuntimeException> OUTSIDE = IndexOutOfBoundsException.class;
    private static final Class<? extends RuntimeException> NONE = IllegalArgumentException.class;
    private static final Class<? extends RuntimeException> CANNOT = IllegalStateException.class;
    private static final Class<? extends RuntimeException> NO_SUCH = NoSuchElementException.class;
    private static final Class<? extends RuntimeException> MANY = UnsupportedOperationException.class;
    private static final int MOST = Integer.MAX_VALUE;
    private static final int LEAST = Integer.MIN_VALUE;

    /** The banks that are asked. */
    private enum Kind { RICH, BRIM, FAILED }

    private interface Asked {
        long of(PainBank bank);
    }

    private Refusals() {
    }

    static void run() {
        firstTold();
        nothingChanges();
        nothingChangesWhenFailed();
        nothingChangesByTexts();
        tapeStays();
        noSuchOnes();
        noSuchNumbers();
        theDead();
        failedBank();
        nobodyAtAll();
    }

    private static PainBank made(Kind kind) {
        PainBank b = Check.banked("person bears 5 pain 9123456;person bears 9 pain 1111111;person bears 9 pain 0000000;account 0 500;account 1 50;"
            + "account 2 30;heir 0 2;heir 2 0;hears 2 0;owes 0 2 9999;owes 2 1 7;vault 99999", "rain 40;fall 40;dead 1");
        Check.rule(b, "draw 3 if wet;put 2");
        b.days(9);
        Check.tell(b, "account 0 99000;forged 0 5;account 2 30;rate 0");
        if (kind == Kind.FAILED) {
            Check.tell(b, "vault 0");
            b.days(1);
            Check.tell(b, "vault 99999;account 0 50;account 2 99990");
        } else if (kind == Kind.BRIM) {
            Check.tell(b, "account 0 99990");
        }
        Check.due("failed", b.count(11), kind == Kind.FAILED ? 1 : 0);
        Check.due("rows", b.count(13) > 0, true);
        b.image();
        Check.wrongBank(b, "rate 1;ache", 7);
        if (kind != Kind.FAILED) {
            b.put(2, 4);
            b.draw(0, 7);
        }
        b.owe(0, 1, 4);
        b.hear(0, 4);
        Check.feed(b, "rate 17");
        return b;
    }

    /** All that can be asked of a bank, which is used up by it. */
    private static List<Long> all(PainBank b) {
        List<Long> answers = new ArrayList<>();
        tell(b, answers);
        answers.add((long) b.fault());
        int undone = b.count(14);
        for (int i = 0; i <= undone; i++) {
            answers.add(b.undo() ? 1L : 0L);
            answers.add((long) b.count(9));
            answers.add((long) b.count(4));
        }
        answers.add(b.back() ? 1L : 0L);
        tell(b, answers);
        answers.add((long) b.feed(0x20202020, 0x20202020, 0x20202020, 0x20202020, 0x20202020));
        answers.add((long) b.bank());
        answers.add((long) b.count(6));
        return answers;
    }

    private static void tell(PainBank b, List<Long> answers) {
        for (int what = 0; what <= 14; what++) {
            answers.add((long) b.count(what));
        }
        int people = b.count(0);
        for (int p = 0; p < people; p++) {
            for (int what = 0; what < 10; what++) {
                answers.add((long) b.person(p, what));
            }
            answers.add((long) b.pain(p, p));
            for (int q = 0; q < people; q++) {
                answers.add(p == q ? 0L : b.owed(p, q));
            }
            answers.add((long) b.led(p, true));
        }
        for (int ago = 0; ago < 3; ago++) {
            answers.add((long) b.log(ago, 0));
            answers.add((long) b.log(ago, 2));
        }
        int seed = b.seed(0);
        answers.add((long) seed);
        b.seed(seed);
        // What the law is shows in what comes.
        answers.add((long) b.trial(20, true));
        answers.add((long) b.trial(20, false));
    }

    /** The call is refused so, and all is as on a twin on which it was not made. */
    private static void refused(String call, Kind kind, Class<? extends RuntimeException> want, Asked asked) {
        PainBank twin = made(kind);
        PainBank bank = made(kind);
        Check.throwing(call, want, () -> asked.of(bank));
        List<Long> due = all(twin);
        List<Long> got = all(bank);
        Check.due(call + " changes nothing", got.equals(due), true);
    }

    private static void refused(String call, Class<? extends RuntimeException> want, Asked asked) {
        refused(call, Kind.RICH, want, asked);
    }

    private static void firstTold() {
        Check.sentence("Of several exceptions the one told first is thrown", 4, 7, 8, 9, 10, 11, 12, 13, 14, 16, 20, 23, 24, 27, 31, 32, 33, 37, 40);
        refused("person: nobody, another what", OUTSIDE, b -> b.person(3, 10));
        refused("owed: nobody, both one", OUTSIDE, b -> b.owed(3, 3));
        refused("today: nobody, another what", OUTSIDE, b -> b.today(3, 3));
        refused("today: dead, another what", CANNOT, b -> b.today(1, 3));
        refused("put: nobody, n none", OUTSIDE, b -> b.put(3, 0));
        refused("put: n none, dead", NONE, b -> b.put(1, 0));
        refused("put: n too many, dead", NONE, b -> b.put(1, 10000));
        refused("put: n none, failed", Kind.FAILED, NONE, b -> b.put(0, 0));
        refused("put: above 99999, failed", Kind.FAILED, NONE, b -> b.put(2, 10));
        refused("draw: nobody, n none", OUTSIDE, b -> b.draw(-1, 0));
        refused("draw: n none, dead", NONE, b -> b.draw(1, 0));
        refused("draw: n too many, dead", NONE, b -> b.draw(1, 51));
        refused("draw: n too many, failed", Kind.FAILED, NONE, b -> b.draw(0, 51));
        refused("cheque: nobody, both one", OUTSIDE, b -> b.cheque(3, 3, 1));
        refused("cheque: the other nobody, n none", OUTSIDE, b -> b.cheque(0, 3, 0));
        refused("cheque: both one, dead", NONE, b -> b.cheque(1, 1, 1));
        refused("cheque: n none, dead", NONE, b -> b.cheque(1, 0, 0));
        refused("cheque: n too many, dead", NONE, b -> b.cheque(1, 0, 51));
        refused("cheque: n none, the other dead", NONE, b -> b.cheque(0, 1, 0));
        refused("cheque: above 99999, dead", Kind.BRIM, NONE, b -> b.cheque(1, 0, 40));
        refused("cheque: above 99999, failed", Kind.FAILED, NONE, b -> b.cheque(0, 2, 50));
        refused("cheque: both one, failed", Kind.FAILED, NONE, b -> b.cheque(0, 0, 1));
        refused("owe: nobody, both one", OUTSIDE, b -> b.owe(3, 3, 0));
        refused("owe: nobody, n none", OUTSIDE, b -> b.owe(0, 3, 0));
        refused("owe: n none, above 9999", NONE, b -> b.owe(0, 2, 1000));
        refused("ahead: nobody, N none", OUTSIDE, b -> b.ahead(3, 61));
        refused("plan: nobody, N none", OUTSIDE, b -> b.plan(3, 41, 0));
        refused("cost: nobody, N none", OUTSIDE, b -> b.cost(3, 61));
        refused("share: nobody, both one", OUTSIDE, b -> b.share(3, 3) ? 1 : 0);
        refused("share: nobody, dead", OUTSIDE, b -> b.share(1, 3) ? 1 : 0);
        refused("share: both one, dead", NONE, b -> b.share(1, 1) ? 1 : 0);
        refused("shares: nobody, both one", OUTSIDE, b -> b.shares(3, 3));
        refused("shares: nobody, dead", OUTSIDE, b -> b.shares(1, -1));
        refused("shares: both one, dead", NONE, b -> b.shares(1, 1));
        refused("peak: nobody, N none", OUTSIDE, b -> b.peak(3, 0, true));
        refused("peak: N none, dead", NONE, b -> b.peak(1, 0, true));
        refused("peak: N too many, dead", NONE, b -> b.peak(1, 61, true));
    }

    private static void nothingChanges() {
        Check.sentence("a call that throws changes nothing but the TAPE", 7, 8, 9, 10, 11, 12, 13, 14, 16, 17, 19, 20, 21, 23, 24, 26, 27, 31, 32, 33, 34, 37, 38, 40, 42, 43, 44, 45);
        refused("person", NO_SUCH, b -> b.person(0, 10));
        refused("pain", OUTSIDE, b -> b.pain(0, 7));
        refused("owed", NONE, b -> b.owed(1, 1));
        refused("today, dead", CANNOT, b -> b.today(1, 0));
        refused("today", NO_SUCH, b -> b.today(0, 3));
        refused("put, none", NONE, b -> b.put(0, 10000));
        refused("put, above 99999", NONE, b -> b.put(0, 9999));
        refused("put, dead", CANNOT, b -> b.put(1, 1));
        refused("draw, none", NONE, b -> b.draw(0, 0));
        refused("draw, dead", CANNOT, b -> b.draw(1, 1));
        refused("cheque, none", NONE, b -> b.cheque(0, 2, 0));
        refused("cheque, above 99999", Kind.BRIM, NONE, b -> b.cheque(2, 0, 17));
        refused("cheque, dead", CANNOT, b -> b.cheque(1, 2, 1));
        refused("cheque, the other dead", CANNOT, b -> b.cheque(0, 1, 1));
        refused("owe, none", NONE, b -> b.owe(0, 1, 0));
        refused("owe, above 9999", CANNOT, b -> b.owe(0, 2, 1));
        refused("die, nobody", OUTSIDE, b -> b.die(3));
        refused("die, dead", CANNOT, b -> b.die(1));
        refused("hear", OUTSIDE, b -> b.hear(3, 1));
        refused("days, 0", NONE, b -> b.days(0));
        refused("days, 61", NONE, b -> b.days(61));
        refused("ahead", NONE, b -> b.ahead(0, 61));
        refused("fails", NONE, b -> b.fails(61) ? 1 : 0);
        refused("plan", NONE, b -> b.plan(0, 41, 0));
        refused("cost", NONE, b -> b.cost(0, 61));
        refused("ring", OUTSIDE, b -> b.ring(3));
        refused("run", CANNOT, b -> b.run(1, true));
        refused("saint", OUTSIDE, b -> b.saint(0, 7, true));
        refused("share", CANNOT, b -> b.share(0, 1) ? 1 : 0);
        refused("shares", CANNOT, b -> b.shares(0, 1));
        refused("could", OUTSIDE, b -> b.could(3));
        refused("peak, none", NONE, b -> b.peak(0, 61, true));
        refused("peak, dead", CANNOT, b -> b.peak(1, 1, true));
        refused("needed", NONE, b -> b.needed(61));
        refused("rank", CANNOT, b -> b.rank(1));
        refused("trial", NONE, b -> b.trial(41, true));
        refused("span", NONE, b -> b.span(41, true));
        refused("led", OUTSIDE, b -> b.led(3, true));
        refused("log", NO_SUCH, b -> b.log(0, 4));
    }

    private static void nothingChangesWhenFailed() {
        Check.sentence("IllegalStateException: one is dead, or it cannot be.", 11, 12, 13);
        refused("put, failed", Kind.FAILED, CANNOT, b -> b.put(0, 1));
        refused("draw, failed", Kind.FAILED, CANNOT, b -> b.draw(0, 1));
        refused("cheque, failed", Kind.FAILED, CANNOT, b -> b.cheque(0, 2, 1));
        refused("put, dead and failed", Kind.FAILED, CANNOT, b -> b.put(1, 1));
    }

    /** A bank with twelve texts, in which the tape holds this text. */
    private static PainBank full(String text) {
        PainBank b = made(Kind.RICH);
        Check.tell(b, "");
        for (int i = b.count(2); i < 12; i++) {
            Check.tell(b, "rate 3");
        }
        b.put(2, 5);
        b.image();
        b.put(2, 6);
        Check.feed(b, text);
        return b;
    }

    private static void nothingChangesByTexts() {
        Check.sentence("changes nothing but the TAPE, where it is used up", 4, 5);
        texts("a wrong text", "account 0 7;dead 2;vault 1;rate 1;" + TextEdges.people(1) + ";ache", NONE, PainBank::bank);
        texts("a wrong text, when there are 12", "account 0 7;ache", NONE, PainBank::bank);
        texts("a 13th text", "account 0 7;dead 2", MANY, PainBank::bank);
        texts("an empty 13th text", "", MANY, PainBank::bank);
        texts("a wrong law", "put 9;draw 9;ache", NONE, PainBank::law);
    }

    private static void texts(String call, String text, Class<? extends RuntimeException> want, Asked asked) {
        PainBank bank = full(text);
        PainBank twin = full(text);
        Check.throwing(call, want, () -> asked.of(bank));
        Check.due("used up", bank.end(1), text.isEmpty() ? twin.end(1) : false);
        List<Long> got = new ArrayList<>();
        List<Long> due = new ArrayList<>();
        tell(bank, got);
        tell(twin, due);
        Check.due(call + " changes nothing", got.equals(due), true);
        Check.due("acts", bank.undo(), true);
        Check.due("acts", bank.undo(), true);
        Check.due("none more", bank.undo(), false);
        Check.due("the image", bank.back(), true);
        twin.back();
        got.clear();
        due.clear();
        tell(bank, got);
        tell(twin, due);
        Check.due(call + " changes no image", got.equals(due), true);
    }

    private static void tapeStays() {
        Check.sentence("but the TAPE, where it is used up", 2, 3, 11);
        PainBank b = made(Kind.RICH);
        Check.none("put", () -> b.put(0, 0));
        Check.due("the tape is still there", b.end(8), false);
        Check.due("the tape is still there", b.end(7), true);
        Check.due("and is read", b.bank(), 4);
        Check.due("rate", b.count(6), 17);
        Check.due("used up", b.end(1), false);
    }

    private static void noSuchOnes() {
        Check.sentence("IndexOutOfBoundsException: there is no such PERSON, WEEKDAY.", 7, 8, 9, 10, 11, 12, 13, 14, 16, 17, 20, 23, 24, 26, 27, 32, 33, 34, 37, 40, 44);
        for (int p : new int[] {-1, 3, 7, 8, MOST, LEAST}) {
            PainBank b = made(Kind.RICH);
            outside(b, p);
            outsideOfTwo(b, p);
        }
    }

    private static void outside(PainBank b, int p) {
        Check.outside("person " + p, () -> b.person(p, 0));
        Check.outside("pain " + p, () -> b.pain(p, 0));
        Check.outside("today " + p, () -> b.today(p, 0));
        Check.outside("put " + p, () -> b.put(p, 1));
        Check.outside("draw " + p, () -> b.draw(p, 1));
        Check.outside("die " + p, () -> b.die(p));
        Check.outside("hear " + p, () -> b.hear(p, 1));
        Check.outside("ahead " + p, () -> b.ahead(p, 1));
        Check.outside("plan " + p, () -> b.plan(p, 1, 0));
        Check.outside("cost " + p, () -> b.cost(p, 1));
        Check.outside("ring " + p, () -> b.ring(p));
        Check.outside("run " + p, () -> b.run(p, false));
        Check.outside("could " + p, () -> b.could(p));
        Check.outside("peak " + p, () -> b.peak(p, 1, false));
        Check.outside("rank " + p, () -> b.rank(p));
        Check.outside("led " + p, () -> b.led(p, false));
    }

    private static void outsideOfTwo(PainBank b, int p) {
        Check.outside("owed by " + p, () -> b.owed(p, 0));
        Check.outside("owed to " + p, () -> b.owed(0, p));
        Check.outside("cheque of " + p, () -> b.cheque(p, 0, 1));
        Check.outside("cheque to " + p, () -> b.cheque(0, p, 1));
        Check.outside("owe by " + p, () -> b.owe(p, 0, 1));
        Check.outside("owe to " + p, () -> b.owe(0, p, 1));
        Check.outside("share of " + p, () -> b.share(p, 0) ? 1 : 0);
        Check.outside("share with " + p, () -> b.share(0, p) ? 1 : 0);
        Check.outside("shares of " + p, () -> b.shares(p, 0));
        Check.outside("shares with " + p, () -> b.shares(0, p));
    }

    private static void noSuchNumbers() {
        Check.sentence("IllegalArgumentException: a number is none, or two are one.", 9, 11, 12, 13, 14, 19, 20, 21, 23, 24, 32, 33, 37, 38, 42, 43);
        PainBank b = made(Kind.RICH);
        for (int n : new int[] {LEAST, -1, 61, MOST}) {
            Check.none("ahead " + n, () -> b.ahead(0, n));
            Check.none("fails " + n, () -> b.fails(n) ? 1 : 0);
            Check.none("cost " + n, () -> b.cost(0, n));
            Check.none("needed " + n, () -> b.needed(n));
            Check.none("days " + n, () -> b.days(n));
            Check.none("peak " + n, () -> b.peak(0, n, true));
        }
        for (int n : new int[] {LEAST, -1, 41, MOST}) {
            Check.none("trial " + n, () -> b.trial(n, true));
            Check.none("span " + n, () -> b.span(n, true));
            Check.none("plan " + n, () -> b.plan(0, n, 0));
        }
        for (int n : new int[] {LEAST, -1, 0, MOST}) {
            Check.none("put " + n, () -> b.put(0, n));
            Check.none("draw " + n, () -> b.draw(0, n));
            Check.none("cheque " + n, () -> b.cheque(0, 2, n));
            Check.none("owe " + n, () -> b.owe(0, 1, n));
        }
        for (int p = 0; p < 3; p++) {
            int one = p;
            Check.none("owed", () -> b.owed(one, one));
            Check.none("cheque", () -> b.cheque(one, one, 1));
            Check.none("owe", () -> b.owe(one, one, 1));
            Check.none("share", () -> b.share(one, one) ? 1 : 0);
            Check.none("shares", () -> b.shares(one, one));
        }
    }

    private static void theDead() {
        Check.sentence("ALIVE or dead", 7, 8, 9, 14, 17, 20, 23, 24, 26, 34, 44);
        // What does not say that the dead are refused answers of them, too; 1 is dead and has 50.
        PainBank b = made(Kind.RICH);
        int[] told = {9, 50, 0, 0, -1, 0, 11, 0, 0, 0};
        for (int what = 0; what < told.length; what++) {
            Check.due("person(1, " + what + ")", b.person(1, what), told[what]);
        }
        Check.due("pain", b.pain(1, 6), 1);
        Check.due("owed", b.owed(2, 1), 7);
        Check.due("owe", b.owe(1, 2, 5), 5);
        Check.due("owe", b.owe(2, 1, 5), 12);
        Check.due("hear", b.hear(1, 7), 0);
        Check.due("hears", b.person(1, 5), 5);
        Check.due("ahead", b.ahead(1, 60), 50);
        Check.due("plan", b.plan(1, 1, -1), 51);
        Check.due("cost", b.cost(1, 60), 0);
        Check.due("ring", b.ring(1), 2);
        Check.due("could", b.could(1), 0);
        Check.due("led", b.led(1, true), 0);
        // What does say so refuses them.
        Check.cannot("today", () -> b.today(1, 0));
        Check.cannot("put", () -> b.put(1, 1));
        Check.cannot("draw", () -> b.draw(1, 1));
        Check.cannot("cheque", () -> b.cheque(1, 0, 1));
        Check.cannot("die", () -> b.die(1));
        Check.cannot("run", () -> b.run(1, false));
        Check.cannot("share", () -> b.share(1, 0) ? 1 : 0);
        Check.cannot("shares", () -> b.shares(1, 0));
        Check.cannot("peak", () -> b.peak(1, 1, false));
        Check.cannot("rank", () -> b.rank(1));
    }

    private static void failedBank() {
        Check.sentence("FAILED or not.", 14, 15, 16, 17, 18, 19, 27, 32, 33, 34, 40, 50);
        // Put, draw and cheque alone are refused by a bank that failed; 0 has 50, 2 has 99990.
        PainBank b = made(Kind.FAILED);
        Check.due("owe", b.owe(0, 1, 5), 9);
        Check.due("hear", b.hear(0, 2), 4);
        Check.due("net", b.net() > 0, true);
        Check.due("run", b.run(0, false), 5);
        Check.due("share", b.share(0, 2), false);
        Check.due("could", b.could(0), 0);
        Check.due("rank", b.rank(0) >= 0, true);
        Check.due("die", b.die(0), 2);
        Check.due("failed still", b.count(11), 1);
        Check.due("days", b.days(1) >= 0, true);
        Check.due("failed still", b.count(11), 1);
        Check.tell(b, "rate 1");
        Check.due("by no text either", b.count(11), 1);
        Check.due("refound", b.refound(), true);
        Check.due("not any more", b.count(11), 0);
        Check.due("so that one may put again", b.put(2, 1) > 0, true);
    }

    private static void nobodyAtAll() {
        Check.sentence("`PainBank()`: Nobody.", 1, 15, 18, 22, 25, 28, 29, 30, 35, 36, 39, 41);
        PainBank b = new PainBank();
        outside(b, 0);
        outsideOfTwo(b, 0);
        Check.due("net", b.net(), 0);
        Check.due("refound", b.refound(), false);
        Check.due("first", b.first(true), -1);
        Check.due("netted", b.netted(), 0);
        Check.due("spark", b.spark(), -1);
        Check.due("reserve", b.reserve(), 0);
        Check.due("feelings", b.feelings(), 0);
        Check.due("fewest", b.fewest(), 0);
        Check.due("quiet", b.quiet(false) + b.quiet(true), 0);
        Check.due("parted", b.parted(false) + b.parted(true), 0);
        Check.due("strike", b.strike(), 0);
    }
}
