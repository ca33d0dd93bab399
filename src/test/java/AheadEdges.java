/** The edges of questions about days to come, a sentence of the document each. */
final class AheadEdges {
    private static final int MOST = Integer.MAX_VALUE;
    private static final int LEAST = Integer.MIN_VALUE;

    private AheadEdges() {
    }

    static void run() {
        today();
        todayNothingStays();
        ahead();
        aheadWithoutRain();
        fails();
        first();
        firstWho();
        firstOfNone();
        planDays();
        planLeast();
        planPainAbove();
        planEarly();
        planParts();
        planOfNothing();
        planOfMuch();
        planNothingElse();
        cost();
        costOfTheDead();
        peak();
        peakFirst();
        needed();
        neededWhatever();
        trial();
        trialNothingStays();
        span();
        failedBank();
    }

    private static PainBank one(String pains, String rest) {
        return Check.banked("person bears 9 pain " + pains, rest.isEmpty() ? "vault 99999;rate 0" : "vault 99999;rate 0;" + rest);
    }

    private static void today() {
        Check.sentence("TODAY what 0 PUT, 1 DRAWN, 2 FEELS. IllegalStateException: one is dead; NoSuchElementException: another what.", 10);
        PainBank b = Check.banked("person bears 5 pain 7000000;person bears 5 pain 1000000;account 1 50;dead 0", "person bears 5 pain 7000000");
        Check.due("put", b.today(2, 0), 2);
        Check.due("drawn", b.today(1, 1), 4);
        Check.due("feels", b.today(2, 2), 5);
        Check.noSuch("what -1", () -> b.today(1, -1));
        Check.noSuch("what 3", () -> b.today(1, 3));
        Check.noSuch("the most", () -> b.today(1, MOST));
        Check.noSuch("the least", () -> b.today(1, LEAST));
        Check.cannot("dead", () -> b.today(0, 0));
        Check.outside("3", () -> b.today(3, 0));
        Check.outside("-1", () -> b.today(-1, 0));
    }

    private static void todayNothingStays() {
        Check.sentence("by a whole DAY without rain, without falls (nothing stays)", 10);
        PainBank b = one("7777777", "rain 100;fall 100;account 0 50;vault 0");
        Check.rightLaw(b, "put 1 if wet;put 2 if pain > 7;draw 3", 2 + 1);
        Check.due("put", b.today(0, 0), 0);
        Check.due("drawn", b.today(0, 1), 3);
        Check.due("feels, for it would fail", b.today(0, 2), 57);
        Check.due("day", b.count(4), 0);
        Check.due("account", b.person(0, 1), 50);
        Check.due("failed", b.count(11), 0);
        Check.due("too much", b.count(12) + b.count(13) + b.count(14), 0);
        Check.due("seed", b.seed(1), 1);
    }

    private static void ahead() {
        Check.sentence("AHEAD by N DAYS (0 to 60), without rain and falls: ACCOUNT of a PERSON", 20);
        PainBank b = one("1111111", "account 0 5");
        Check.rightLaw(b, "put 1", 1);
        Check.none("-1", () -> b.ahead(0, -1));
        Check.due("0", b.ahead(0, 0), 5);
        Check.due("1", b.ahead(0, 1), 6);
        Check.due("59", b.ahead(0, 59), 64);
        Check.due("60", b.ahead(0, 60), 65);
        Check.none("61", () -> b.ahead(0, 61));
        Check.none("the most", () -> b.ahead(0, MOST));
        Check.none("the least", () -> b.ahead(0, LEAST));
        Check.outside("1", () -> b.ahead(1, 0));
        Check.outside("-1", () -> b.ahead(-1, 0));
        Check.due("nothing stays", b.person(0, 1), 5);
        Check.due("nothing stays", b.count(4), 0);
        // The dead are asked, too.
        Check.rightBank(b, "dead 0");
        Check.due("dead", b.ahead(0, 60), 5);
    }

    private static void aheadWithoutRain() {
        Check.sentence("without rain and falls: ACCOUNT of a PERSON; whether the bank FAILED by then", 20, 21);
        PainBank b = one("1111111", "account 0 5;rain 100;fall 100");
        Check.rightLaw(b, "put 1 if wet;put 2 if pain > 1;put 1 if day > 1", 3);
        Check.due("2", b.ahead(0, 2), 5);
        Check.due("3", b.ahead(0, 3), 6);
        Check.rightBank(b, "vault 5");
        Check.due("2", b.fails(2), false);
        Check.due("3", b.fails(3), true);
        Check.due("the seed stays", b.seed(1), 1);
    }

    private static void fails() {
        Check.sentence("AHEAD: whether the bank FAILED by then. IllegalArgumentException: N is none.", 21);
        PainBank b = one("1111111", "account 0 5;vault 64");
        Check.rightLaw(b, "put 1", 1);
        Check.none("-1", () -> b.fails(-1) ? 1 : 0);
        Check.due("0", b.fails(0), false);
        Check.due("59", b.fails(59), false);
        Check.due("60", b.fails(60), true);
        Check.none("61", () -> b.fails(61) ? 1 : 0);
        Check.none("the most", () -> b.fails(MOST) ? 1 : 0);
        Check.rightBank(b, "vault 65");
        Check.due("60", b.fails(60), false);
        Check.due("nothing stays", b.count(11), 0);
        Check.due("by then: it stays failed", ActEdges.failed().fails(0), true);
        Check.due("by then: it stays failed", ActEdges.failed().fails(60), true);
        Check.rightBank(b, "vault 5");
        Check.due("who failed once has failed by then", b.fails(60), true);
        Check.due("nobody", new PainBank().fails(60), false);
    }

    private static void first() {
        Check.sentence("in how many of these DAYS (1 to 60) it is TOO MUCH for somebody first", 22);
        PainBank b = one("0000000", "account 0 99");
        int[][] due = {{0, 1}, {1, 2}, {58, 59}, {59, 60}, {60, -1}};
        for (int[] row : due) {
            Check.rightLaw(b, "draw 10 if day + 1 > " + row[0], 1);
            Check.due("from day " + row[0], b.first(false), row[1]);
            Check.due("who", b.first(true), row[1] < 0 ? -1 : 0);
        }
        b.days(1);
        Check.due("a day later it is the 60th", b.first(false), 60);
        Check.rightLaw(b, "draw 9", 1);
        Check.due("just what one bears", b.first(false), -1);
        Check.due("nothing stays", b.count(4) + b.count(13), 1);
    }

    private static void firstWho() {
        Check.sentence("who (of several the least); none", 22);
        String three = "person bears 9 pain 0000000;person bears 8 pain 0900000;person bears 8 pain 0900000;person bears 8 pain 0090000";
        PainBank b = Check.banked(three);
        Check.rightLaw(b, "", 0);
        Check.due("the least of 1 and 2", b.first(true), 1);
        Check.due("on the 2nd", b.first(false), 2);
        b.die(1);
        Check.due("2 alone", b.first(true), 2);
        b.die(2);
        Check.due("3", b.first(true), 3);
        Check.due("on the 3rd", b.first(false), 3);
        b.die(3);
        Check.due("none", b.first(true), -1);
        PainBank just = Check.banked("person bears 9 pain 9000000;person bears 8 pain 9000000;person bears 9 pain 9000000");
        Check.rightLaw(just, "", 0);
        Check.due("who feels just what one bears is not meant", just.first(true), 1);
        Check.due("none", b.first(false), -1);
    }

    private static void firstOfNone() {
        Check.sentence("FIRST too much: in how many DAYS (who false), or who; NONE.", 22);
        Check.due("nobody", new PainBank().first(false), -1);
        Check.due("nobody", new PainBank().first(true), -1);
        PainBank fall = Check.banked("person bears 9 pain 9999999;fall 100;rain 100");
        Check.rightLaw(fall, "draw 1 if wet", 1);
        Check.due("falls are left out", fall.first(false), -1);
        PainBank vault = Check.banked("person bears 9 pain 0000000;account 0 99;vault 0");
        Check.rightLaw(vault, "", 0);
        Check.due("by the vault", vault.first(false), 1);
        Check.rightBank(vault, "account 0 9");
        Check.due("no more than one bears", vault.first(false), -1);
    }

    private static void planDays() {
        Check.sentence("PLAN for a PERSON by N DAYS (1 to 40), from today on", 23);
        PainBank b = one("0000000", "account 0 40");
        Check.none("0", () -> b.plan(0, 0, -1));
        Check.none("-1", () -> b.plan(0, -1, -1));
        Check.due("1", b.plan(0, 1, -1), 40);
        Check.due("2", b.plan(0, 2, -1), 20);
        Check.due("39", b.plan(0, 39, -1), 2);
        Check.due("40", b.plan(0, 40, -1), 1);
        Check.none("41", () -> b.plan(0, 41, -1));
        Check.none("the most", () -> b.plan(0, MOST, -1));
        Check.none("the least", () -> b.plan(0, LEAST, -1));
        Check.outside("1", () -> b.plan(1, 1, -1));
        Check.outside("-1", () -> b.plan(-1, 1, -1));
        PainBank later = one("9000000", "account 0 6");
        Check.due("the pain of today first", later.plan(0, 1, -1), 15);
        Check.rightLaw(later, "", 0);
        later.days(1);
        Check.due("from today on", later.plan(0, 1, -1), 6);
        later.days(5);
        Check.due("round the week", later.plan(0, 2, -1), 6);
    }

    private static void planLeast() {
        Check.sentence("the least L so that all of it is felt by then and one FEELS L at most on each DAY", 23);
        // Pains 3, 1: under 5 there is room for 2 and 4.
        int[][] due = {{1, 2}, {2, 3}, {3, 4}, {4, 4}, {5, 5}, {6, 5}, {7, 6}, {8, 6}};
        for (int[] row : due) {
            PainBank b = one("3100000", "account 0 " + row[0]);
            Check.due("least for " + row[0], b.plan(0, 2, -1), row[1]);
        }
    }

    private static void planPainAbove() {
        Check.sentence("(PAIN alone may be above it: that DAY nothing more)", 23);
        PainBank b = one("9090000", "account 0 2");
        Check.due("under 2 the second day alone", b.plan(0, 3, -1), 2);
        Check.due("first", b.plan(0, 3, 0), 0);
        Check.due("second", b.plan(0, 3, 1), 2);
        Check.due("third", b.plan(0, 3, 2), 0);
        Check.rightBank(b, "account 0 9");
        Check.due("just the pain", b.plan(0, 3, -1), 9);
        Check.due("first", b.plan(0, 3, 0), 0);
        Check.rightBank(b, "account 0 10");
        Check.due("one above it", b.plan(0, 3, -1), 10);
        Check.due("first", b.plan(0, 3, 0), 1);
        Check.due("second", b.plan(0, 3, 1), 9);
        Check.due("third", b.plan(0, 3, 2), 0);
    }

    private static void planEarly() {
        Check.sentence("how much of it is felt on the k-th of these DAYS, as early as can be", 23);
        PainBank b = one("0000000", "account 0 10");
        Check.due("least", b.plan(0, 4, -1), 3);
        int[] due = {3, 3, 3, 1};
        for (int k = 0; k < 4; k++) {
            Check.due("part " + k, b.plan(0, 4, k), due[k]);
        }
        Check.rightBank(b, "account 0 9");
        Check.due("least", b.plan(0, 4, -1), 3);
        Check.due("the last has nothing", b.plan(0, 4, 3), 0);
    }

    private static void planParts() {
        Check.sentence("PLAN: L (k NONE), or how much on the k-th DAY (from 0 on); NONE.", 23);
        PainBank b = one("0000000", "account 0 10");
        Check.due("-2", b.plan(0, 3, -2), -1);
        Check.due("-1", b.plan(0, 3, -1), 4);
        Check.due("0", b.plan(0, 3, 0), 4);
        Check.due("2", b.plan(0, 3, 2), 2);
        Check.due("3", b.plan(0, 3, 3), -1);
        Check.due("the most", b.plan(0, 3, MOST), -1);
        Check.due("the least", b.plan(0, 3, LEAST), -1);
        Check.due("39 of 40", b.plan(0, 40, 39), 0);
        Check.due("40 of 40", b.plan(0, 40, 40), -1);
        Check.due("0 of 1", b.plan(0, 1, 0), 10);
        Check.due("1 of 1", b.plan(0, 1, 1), -1);
    }

    private static void planOfNothing() {
        Check.sentence("the least L so that all of it is felt by then", 23);
        PainBank b = one("9999999", "");
        Check.due("nothing", b.plan(0, 1, -1), 0);
        Check.due("nothing", b.plan(0, 40, -1), 0);
        Check.due("nothing", b.plan(0, 1, 0), 0);
        Check.rightBank(b, "account 0 1");
        Check.due("one", b.plan(0, 1, -1), 10);
        Check.due("one", b.plan(0, 1, 0), 1);
    }

    private static void planOfMuch() {
        Check.sentence("one may FEEL of one's ACCOUNT any part on each DAY beside one's PAIN of that DAY", 23);
        PainBank b = one("9999999", "account 0 99999");
        Check.due("one day", b.plan(0, 1, -1), 100008);
        Check.due("one day", b.plan(0, 1, 0), 99999);
        Check.due("40 days", b.plan(0, 40, -1), 2509);
        Check.due("the first", b.plan(0, 40, 0), 2500);
        Check.due("the last", b.plan(0, 40, 39), 2499);
        // Forged pain is of the account, too, and a dead one's plan is asked without harm.
        Check.rightBank(b, "account 0 80;forged 0 80;dead 0");
        Check.due("dead", b.plan(0, 40, -1), 11);
    }

    private static void planNothingElse() {
        Check.sentence("(nothing else is PUT or DRAWN, no interest)", 23);
        PainBank b = Check.banked("person bears 2 pain 0000000;account 0 40;rate 20;vault 0;rain 100;fall 100");
        Check.rightLaw(b, "put 9;draw 9", 2);
        Check.due("plan", b.plan(0, 20, -1), 2);
        Check.due("what one bears is no bound", b.plan(0, 2, -1), 20);
        Check.due("nothing stays", b.person(0, 1), 40);
    }

    private static void cost() {
        Check.sentence("COST. IllegalArgumentException: N is none (0 to 60).", 24);
        PainBank b = Check.banked("person bears 9 pain 9999999;account 0 100;rate 10;vault 0");
        Check.none("-1", () -> b.cost(0, -1));
        Check.due("0", b.cost(0, 0), 0);
        Check.due("1", b.cost(0, 1), 0);
        Check.due("59", b.cost(0, 59), 63);
        Check.due("60", b.cost(0, 60), 80);
        Check.none("61", () -> b.cost(0, 61));
        Check.none("the most", () -> b.cost(0, MOST));
        Check.none("the least", () -> b.cost(0, LEAST));
        Check.outside("1", () -> b.cost(1, 0));
        Check.outside("-1", () -> b.cost(-1, 0));
        Check.sentence("if nothing is PUT or DRAWN for N DAYS", 24);
        Check.rightLaw(b, "draw 99", 1);
        Check.due("nothing is drawn", b.cost(0, 10), 10);
        PainBank ninth = Check.banked("person bears 9 pain 0000000;account 0 100;rate 10");
        Check.rightLaw(ninth, "", 0);
        ninth.days(9);
        Check.due("of no day", ninth.cost(0, 0), 0);
        Check.due("today is the day of interest", ninth.cost(0, 1), 10);
        Check.due("the next one is not yet", ninth.cost(0, 10), 10);
        Check.due("the next one", ninth.cost(0, 11), 21);
        Check.rightBank(b, "rate 0");
        Check.due("without a rate", b.cost(0, 60), 0);
    }

    private static void costOfTheDead() {
        Check.sentence("(0, if one is dead)", 24);
        PainBank b = Check.banked("person bears 9 pain 0000000;person bears 9 pain 0000000;account 0 100;account 1 100;dead 0");
        Check.due("dead", b.cost(0, 60), 0);
        Check.due("alive", b.cost(1, 10), 2);
        Check.none("dead and 61", () -> b.cost(0, 61));
        b.die(1);
        Check.due("dead", b.cost(1, 60), 0);
    }

    private static void peak() {
        Check.sentence("PEAK of a PERSON ALIVE by N DAYS (1 to 60) AHEAD: the most that one FEELS on one of these DAYS", 37);
        PainBank b = Check.banked("person bears 99 pain 1111111;person bears 9 pain 0000000;account 0 99;vault 99999;rate 0;dead 1");
        int[][] due = {{1, 1, 0}, {59, 1, 0}, {60, 11, 59}};
        Check.rightLaw(b, "draw 10 if day > 58", 1);
        for (int[] row : due) {
            Check.due("most by " + row[0], b.peak(0, row[0], false), row[1]);
            Check.due("when by " + row[0], b.peak(0, row[0], true), row[2]);
        }
        Check.none("0", () -> b.peak(0, 0, false));
        Check.none("-1", () -> b.peak(0, -1, true));
        Check.none("61", () -> b.peak(0, 61, false));
        Check.none("the most", () -> b.peak(0, MOST, false));
        Check.none("the least", () -> b.peak(0, LEAST, true));
        Check.cannot("dead", () -> b.peak(1, 1, false));
        Check.outside("2", () -> b.peak(2, 1, false));
        Check.outside("-1", () -> b.peak(-1, 1, false));
    }

    private static void peakFirst() {
        Check.sentence("on which of them first (0: today)", 37);
        PainBank b = one("1232111", "fall 100");
        Check.rightLaw(b, "", 0);
        Check.due("most", b.peak(0, 60, false), 3);
        Check.due("first", b.peak(0, 60, true), 2);
        b.days(2);
        Check.due("today", b.peak(0, 60, true), 0);
        b.days(1);
        Check.due("in a week less a day", b.peak(0, 60, true), 6);
        Check.due("not within 6", b.peak(0, 6, false), 2);
        PainBank none = one("0000000", "");
        Check.due("of nothing today", none.peak(0, 60, true), 0);
        Check.due("nothing", none.peak(0, 60, false), 0);
        PainBank vault = one("0000000", "account 0 40;vault 0");
        Check.rightLaw(vault, "", 0);
        Check.due("by the vault", vault.peak(0, 2, false), 40);
        Check.due("on the day it fails", vault.peak(0, 2, true), 0);
    }

    private static void needed() {
        Check.sentence("NEEDED for N DAYS (0 to 60) AHEAD", 38);
        PainBank b = one("1111111", "account 0 5");
        Check.rightLaw(b, "put 1", 1);
        Check.none("-1", () -> b.needed(-1));
        Check.due("0", b.needed(0), 0);
        Check.due("1", b.needed(1), 6);
        Check.due("59", b.needed(59), 64);
        Check.due("60", b.needed(60), 65);
        Check.none("61", () -> b.needed(61));
        Check.none("the most", () -> b.needed(MOST));
        Check.none("the least", () -> b.needed(LEAST));
        Check.due("nobody", new PainBank().needed(60), 0);
        Check.rightLaw(b, "draw 1", 1);
        Check.due("the greatest of them", b.needed(60), 4);
        Check.rightLaw(b, "put 1 if wet;put 1 if pain > 1", 2);
        Check.rightBank(b, "rain 100;fall 100");
        Check.due("without rain and falls", b.needed(60), 5);
        PainBank dead = Check.banked("person bears 9 pain 0000000;person bears 9 pain 0000000;account 0 5;account 1 7;dead 1");
        Check.rightLaw(dead, "", 0);
        Check.due("the dead one's counts", dead.needed(1), 12);
        Check.due("the dead one's counts in a trial, too", dead.trial(1, true), 12);
        Check.due("nothing stays", b.count(5), 99999);
    }

    private static void neededWhatever() {
        Check.sentence("so that the bank fails on none of them (whatever it holds now; 0 with N 0)", 38);
        PainBank b = one("1111111", "account 0 5;vault 0");
        Check.rightLaw(b, "put 1 if day < 3", 1);
        Check.due("needed", b.needed(10), 8);
        Check.rightBank(b, "vault 7");
        Check.due("needed", b.needed(10), 8);
        Check.due("7 are too few", b.fails(10), true);
        Check.rightBank(b, "vault 8");
        Check.due("8 are enough", b.fails(10), false);
        Check.rightBank(b, "vault 9");
        Check.due("9 are enough", b.fails(10), false);
        Check.due("needed", b.needed(0), 0);
        StringBuilder rich = new StringBuilder("rate 20");
        for (int p = 0; p < 8; p++) {
            rich.append(";account ").append(p).append(" 99999");
        }
        PainBank full = Check.banked(TextEdges.people(8), rich.toString());
        Check.rightLaw(full, "", 0);
        Check.due("more than a vault can hold", full.needed(60), 799992);
    }

    private static void trial() {
        Check.sentence("TRIAL of N DAYS (0 to 40) from now (draws, too; nothing stays): how often it was TOO MUCH for somebody; ACCOUNTS together then", 42);
        PainBank b = Check.banked("person bears 1 pain 3333333;person bears 1 pain 3333333;rate 0;vault 99999");
        Check.rightLaw(b, "put 1", 1);
        Check.none("-1", () -> b.trial(-1, false));
        Check.due("0", b.trial(0, false), 0);
        Check.due("0", b.trial(0, true), 0);
        Check.due("1", b.trial(1, false), 2);
        Check.due("1", b.trial(1, true), 2);
        Check.due("39", b.trial(39, false), 78);
        Check.due("40", b.trial(40, false), 80);
        Check.due("40", b.trial(40, true), 80);
        Check.none("41", () -> b.trial(41, false));
        Check.none("41", () -> b.trial(41, true));
        Check.none("the most", () -> b.trial(MOST, false));
        Check.none("the least", () -> b.trial(LEAST, false));
        Check.due("nobody", new PainBank().trial(40, false), 0);
    }

    private static void trialNothingStays() {
        Check.sentence("from now (draws, too; nothing stays)", 42);
        // The draws from 1: rain 38, fall 58; then 13 and 15.
        PainBank b = Check.banked("person bears 6 pain 2222222;rain 14;fall 59;rate 0");
        Check.rightLaw(b, "put 1 if wet", 1);
        Check.due("falls on both", b.trial(2, false), 1);
        Check.due("wet on the second", b.trial(2, true), 1);
        Check.due("day", b.count(4), 0);
        Check.due("times", b.count(12) + b.count(13) + b.count(14), 0);
        Check.due("account", b.count(9), 0);
        Check.due("the same again", b.trial(2, false), 1);
        Check.due("seed", b.seed(1), 1);
        Check.due("days are the same", b.days(2), 1);
        Check.due("days are the same", b.count(9), 1);
        b.undo();
        b.seed(-1770082073);
        Check.due("from the seed of now", b.trial(1, true), 1);
    }

    private static void span() {
        Check.sentence("SPAN: the fewest and the most such times from SEED 1, 2, .. 6.", 43);
        PainBank b = Check.banked("person bears 1 pain 1111111;person bears 9 pain 0000000;fall 50;rate 0");
        Check.rightLaw(b, "", 0);
        Check.none("-1", () -> b.span(-1, false));
        Check.due("0", b.span(0, false), 0);
        Check.due("0", b.span(0, true), 0);
        Check.none("41", () -> b.span(41, true));
        Check.none("the most", () -> b.span(MOST, true));
        Check.none("the least", () -> b.span(LEAST, false));
        for (int n : new int[] {1, 2, 39, 40}) {
            int fewest = 99;
            int most = 0;
            for (int seed = 1; seed <= 6; seed++) {
                b.seed(seed);
                fewest = Math.min(fewest, b.trial(n, false));
                most = Math.max(most, b.trial(n, false));
            }
            b.seed(77);
            Check.due("fewest by " + n, b.span(n, false), fewest);
            Check.due("most by " + n, b.span(n, true), most);
        }
        Check.due("the seed stays", b.seed(1), 77);
        eachSeed();
        // By the first fall's draw each of the six has a bound of its own.
        int[] draws = new int[8];
        for (int seed = 0; seed < 8; seed++) {
            int next = 1103515245 * (1103515245 * seed + 12345) + 12345;
            draws[seed] = (next >>> 16 & 32767) % 100;
        }
        for (int fall = 0; fall <= 100; fall++) {
            int falling = 0;
            for (int seed = 1; seed <= 6; seed++) {
                falling += draws[seed] < fall ? 1 : 0;
            }
            PainBank one = Check.banked("person bears 1 pain 1111111;fall " + fall);
            Check.rule(one, "");
            Check.due("fewest by fall " + fall, one.span(1, false), falling == 6 ? 1 : 0);
            Check.due("most by fall " + fall, one.span(1, true), falling > 0 ? 1 : 0);
        }
    }

    private static void eachSeed() {
        // People, days and fall for which 1 or 6 alone has the fewest or the most, or 0 or 7 would have: from 0 on
        // 2 3 2 2 1 1 1 1, 0 0 3 2 4 1 1 1, 3 5 5 3 3 3 2 3, 9 10 10 8 7 10 11 9, 3 4 2 3 2 2 2 1, 0 3 2 1 1 1 1 1, 0 0 0 0 0 0 0 1.
        int[][] due = {{1, 3, 60, 1, 3}, {2, 8, 10, 0, 4}, {2, 5, 42, 2, 5}, {2, 6, 80, 7, 11}, {1, 4, 65, 2, 4}, {2, 3, 20, 1, 3}, {1, 1, 7, 0, 0}};
        for (int[] row : due) {
            PainBank b = Check.banked("person bears 1 pain 1111111;fall " + row[2]);
            if (row[0] == 2) {
                Check.tell(b, "person bears 1 pain 1111111");
            }
            Check.rule(b, "");
            String of = row[0] + " people by " + row[1] + " days with fall " + row[2];
            Check.due("fewest of " + of, b.span(row[1], false), row[3]);
            Check.due("most of " + of, b.span(row[1], true), row[4]);
        }
    }

    private static void failedBank() {
        Check.sentence("nothing is PUT, nothing DRAWN, if the bank FAILED", 20, 22, 37, 38, 42);
        PainBank b = ActEdges.failed();
        Check.rightLaw(b, "draw 20", 1);
        Check.due("ahead", b.ahead(0, 60) > 50, true);
        Check.due("peak", b.peak(0, 60, false), 0);
        Check.due("first", b.first(false), -1);
        Check.due("needed", b.needed(1), 100);
        Check.due("trial", b.trial(1, true), 100);
        b.refound();
        Check.due("ahead", b.ahead(0, 1), 30);
        Check.due("peak", b.peak(0, 60, false), 20);
        Check.due("first", b.first(false), 1);
        Check.due("needed", b.needed(1), 60);
        Check.due("trial", b.trial(1, true), 60);
    }
}
