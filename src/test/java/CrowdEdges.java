/** The edges of what is told of people, of debts and of sets of people, a sentence of the document each. */
final class CrowdEdges {
    private static final int MOST = Integer.MAX_VALUE;
    private static final int LEAST = Integer.MIN_VALUE;

    private CrowdEdges() {
    }

    static void run() {
        whats();
        nets();
        worstDays();
        wills();
        heirs();
        netted();
        rings();
        runs();
        runsOfTheDead();
        sparks();
        sparkBits();
        reserves();
        feelings();
        saints();
        saintSets();
        sure();
        share();
        shares();
        sharesFirstPains();
        sharesDead();
        could();
        fewest();
        fewestBits();
        quiet();
        parted();
        partedBits();
        ranks();
        strikes();
    }

    private static PainBank many(int n, String rest) {
        return Check.banked(TextEdges.people(n), rest);
    }

    private static void whats() {
        Check.sentence("NoSuchElementException: another what. ## Promise 8", 7);
        PainBank b = many(8, "account 7 50;forged 7 5;heir 7 0;hears 7 6;dead 7");
        int[] due = {9, 50, 5, 0, 0, 64, 0, 0, 0, 1};
        for (int what = 0; what < due.length; what++) {
            Check.due("person(7, " + what + ")", b.person(7, what), due[what]);
        }
        Check.due("alive", b.person(6, 3), 1);
        Check.noSuch("-1", () -> b.person(7, -1));
        Check.noSuch("10", () -> b.person(7, 10));
        Check.noSuch("the most", () -> b.person(0, MOST));
        Check.noSuch("the least", () -> b.person(0, LEAST));
        Check.outside("8", () -> b.person(8, 0));
        Check.outside("-1", () -> b.person(-1, 0));
        Check.outside("the most", () -> b.person(MOST, 0));
        Check.outside("the least", () -> b.person(LEAST, 0));
    }

    private static void nets() {
        Check.sentence("NET of a PERSON: what all owe one less what one owes all.", 7);
        PainBank b = many(8, "owes 0 7 9999;owes 1 7 9999;owes 2 7 9999;owes 3 7 9999;owes 4 7 9999;owes 5 7 9999;owes 6 7 9999");
        Check.due("all owe one the most", b.person(7, 6), 69993);
        Check.due("one owes", b.person(0, 6), -9999);
        PainBank c = many(8, "owes 7 0 9999;owes 7 1 9999;owes 7 2 9999;owes 7 3 9999;owes 7 4 9999;owes 7 5 9999;owes 7 6 9999");
        Check.due("one owes all the most", c.person(7, 6), -69993);
        PainBank even = many(2, "owes 0 1 7;owes 1 0 7");
        Check.due("even", even.person(0, 6), 0);
        Check.due("nothing", many(1, "").person(0, 6), 0);
    }

    private static void worstDays() {
        Check.sentence("WORST DAY of a PERSON: the WEEKDAY of the most PAIN (of several the least).", 7);
        String[] pains = {"0000000", "9000000", "0000009", "1110000", "0123454", "0999990", "9999999", "8999999"};
        int[] due = {0, 0, 6, 0, 5, 1, 0, 1};
        PainBank b = new PainBank();
        for (int p = 0; p < 8; p++) {
            Check.rightBank(b, "person bears 9 pain " + pains[p]);
            Check.due("worst of " + pains[p], b.person(p, 7), due[p]);
        }
    }

    private static void wills() {
        Check.sentence("WILL: what an HEIR would get, if all whose HEIR one is died now: ACCOUNTS together", 7);
        PainBank b = many(4, "account 0 50;account 1 7;account 2 30;heir 0 3;heir 1 3;heir 2 0");
        Check.due("of two", b.person(3, 8), 57);
        Check.due("of one", b.person(0, 8), 30);
        Check.due("nobody's", b.person(1, 8), 0);
        b.die(1);
        Check.due("who died has nothing to leave", b.person(3, 8), 50);
        Check.due("for it went to 3", b.person(3, 1), 7);
        Check.rightBank(b, "account 1 9");
        Check.due("nor does one die who is dead", b.person(3, 8), 50);
    }

    private static void heirs() {
        Check.sentence("HEIRS: all to whom one comes by HEIR, and HEIR of that one, .., as bits", 7);
        PainBank line = many(8, "heir 0 1;heir 1 2;heir 2 3;heir 3 4;heir 4 5;heir 5 6;heir 6 7");
        Check.due("none", line.person(7, 9), 0);
        Check.due("the last", line.person(6, 9), 128);
        Check.due("all others", line.person(0, 9), 254);
        Check.rightBank(line, "heir 7 0");
        Check.due("round", line.person(0, 9), 255);
        Check.due("round", line.person(7, 9), 255);
        PainBank two = many(3, "heir 0 1;heir 1 2;heir 2 1");
        Check.due("into a ring", two.person(0, 9), 6);
        Check.due("within it", two.person(1, 9), 6);
        two.die(1);
        Check.due("the dead are heirs in it", two.person(0, 9), 6);
    }

    private static void netted() {
        Check.sentence("NETTED: the fewest payments by which all NETS come to 0: how many.", 25);
        Check.due("nobody", new PainBank().netted(), 0);
        Check.due("one", many(1, "").netted(), 0);
        Check.due("nothing owed", many(8, "").netted(), 0);
        Check.due("one payment", many(8, "owes 0 7 1").netted(), 1);
        Check.due("even", many(2, "owes 0 1 7;owes 1 0 7").netted(), 0);
        Check.due("seven for eight", many(8, "owes 0 7 1;owes 1 7 1;owes 2 7 1;owes 3 7 1;owes 4 7 1;owes 5 7 1;owes 6 7 1").netted(), 7);
        Check.due("four pairs", many(8, "owes 0 1 1;owes 2 3 2;owes 4 5 3;owes 6 7 4").netted(), 4);
        // Nets -3, -3, 2, 2, 2: no part of them comes to 0.
        Check.due("no groups", many(5, "owes 0 2 2;owes 0 3 1;owes 1 3 1;owes 1 4 2").netted(), 4);
        // Nets -6, -4, -5, 6, 9: 0 and 3, and the rest; by the greatest first it is one more.
        PainBank b = many(5, "owes 0 3 6;owes 1 4 4;owes 2 4 5");
        Check.due("fewer than by the greatest", b.netted(), 3);
        Check.due("by the greatest", b.net(), 4);
        Check.due("the fewest stay", b.netted(), 3);
        PainBank dead = many(4, "owes 0 2 3;owes 1 3 4;owes 3 0 1;dead 0;dead 1;dead 3");
        Check.due("the dead owe and are owed", dead.netted(), 3);
        Check.due("all of them", dead.net(), 3);
    }

    private static void rings() {
        Check.sentence("RING from a PERSON: the fewest steps by which one comes back to oneself along what is OWED (from who owes to whom); none.", 26);
        PainBank b = many(8, "owes 0 1 1;owes 1 0 1;owes 1 2 1;owes 2 0 9999;owes 3 0 5");
        Check.due("two", b.ring(0), 2);
        Check.due("two", b.ring(1), 2);
        Check.due("three", b.ring(2), 3);
        Check.due("into one, not back", b.ring(3), -1);
        Check.due("nothing", b.ring(4), -1);
        PainBank all = many(8, "owes 0 1 1;owes 1 2 1;owes 2 3 1;owes 3 4 1;owes 4 5 1;owes 5 6 1;owes 6 7 1;owes 7 0 1");
        for (int p = 0; p < 8; p++) {
            Check.due("eight from " + p, all.ring(p), 8);
        }
        Check.rightBank(all, "owes 7 0 0");
        Check.due("0 owed is none", all.ring(0), -1);
        Check.outside("8", () -> all.ring(8));
        Check.outside("-1", () -> all.ring(-1));
        // The dead owe, too.
        Check.rightBank(all, "owes 7 0 1;dead 3");
        Check.due("through the dead", all.ring(0), 8);
    }

    private static void runs() {
        Check.sentence("all ALIVE who HEAR somebody who would, and have an ACCOUNT above 0, would, too: who, as bits; what all these have together", 27);
        PainBank b = many(4, "account 0 10;account 1 1;account 3 30;hears 1 0;hears 2 0;hears 3 2");
        Check.due("1 has one, 2 has nothing", b.run(0, false), 3);
        Check.due("together", b.run(0, true), 11);
        Check.due("from who has nothing", b.run(2, false), 12);
        Check.due("together", b.run(2, true), 30);
        Check.rightBank(b, "account 2 1");
        Check.due("all by steps", b.run(0, false), 15);
        Check.due("together", b.run(0, true), 42);
        Check.due("one alone", b.run(1, false), 2);
        PainBank chain = many(8, "hears 0 1;hears 1 2;hears 2 3;hears 3 4;hears 4 5;hears 5 6;hears 6 7");
        Check.due("nobody has anything", chain.run(7, false), 128);
        Check.due("nothing", chain.run(7, true), 0);
        Check.rightBank(chain, "account 0 1;account 1 1;account 2 1;account 3 1;account 4 1;account 5 1;account 6 1");
        Check.due("seven steps", chain.run(7, false), 255);
        Check.due("seven", chain.run(7, true), 7);
        Check.outside("8", () -> chain.run(8, false));
        Check.outside("-1", () -> chain.run(-1, true));
    }

    private static void runsOfTheDead() {
        Check.sentence("RUN: who, as bits (sum false), or what these have. IllegalStateException: one is dead.", 27);
        PainBank b = many(3, "account 0 10;account 1 20;account 2 30;hears 1 0;hears 2 1;dead 1");
        Check.due("the dead do not run", b.run(0, false), 1);
        Check.due("nor are they counted", b.run(0, true), 10);
        Check.cannot("dead", () -> b.run(1, false));
        Check.cannot("dead", () -> b.run(1, true));
    }

    private static void sparks() {
        Check.sentence("SPARK: the fewest PEOPLE ALIVE from whom a RUN would be more than THE VAULT holds", 28);
        int[][] due = {{0, 1}, {49, 1}, {50, 3}, {59, 3}, {60, -1}, {61, -1}};
        for (int[] row : due) {
            Check.due("spark of " + row[0], many(2, "account 0 50;account 1 10;vault " + row[0]).spark(), row[1]);
        }
        Check.due("nobody", new PainBank().spark(), -1);
        Check.due("nobody with anything", many(8, "vault 0").spark(), -1);
        PainBank b = many(2, "account 0 50;account 1 10;vault 10");
        b.die(0);
        Check.due("10 are not more than 10", b.spark(), -1);
        Check.rightBank(b, "vault 9");
        Check.due("of those alive", b.spark(), 2);
        b.die(1);
        Check.due("nobody alive", b.spark(), -1);
        Check.due("by who has nothing", many(2, "account 0 50;hears 0 1;vault 49").spark(), 1);
        Check.due("the dead are not told", many(3, "account 0 50;account 1 10;account 2 10;dead 0;vault 9").spark(), 2);
        Check.due("nor is the last one", many(3, "account 0 10;account 1 10;account 2 50;dead 2;vault 19").spark(), 3);
    }

    private static void sparkBits() {
        Check.sentence("would be more than THE VAULT holds: of several the least as bits; none", 28);
        Check.due("one of three", many(3, "account 0 5;account 1 9;account 2 9;vault 8").spark(), 2);
        Check.due("two of three", many(3, "account 0 5;account 1 9;account 2 9;vault 13").spark(), 3);
        Check.due("two of three", many(3, "account 0 5;account 1 9;account 2 9;vault 14").spark(), 6);
        Check.due("one who is heard ahead of two", many(4, "account 0 9;account 1 9;account 2 1;hears 0 3;hears 1 3;vault 17").spark(), 8);
        Check.due("all eight", many(8, "account 0 1;account 1 1;account 2 1;account 3 1;account 4 1;account 5 1;account 6 1;account 7 1;vault 7").spark(), 255);
    }

    private static void reserves() {
        Check.sentence("RESERVE (0 without anybody ALIVE).", 29);
        Check.due("nobody", new PainBank().reserve(), 0);
        PainBank b = many(3, "account 0 50;account 1 10;account 2 45;hears 1 2");
        Check.due("the greatest", b.reserve(), 55);
        b.die(2);
        Check.due("of those alive", b.reserve(), 50);
        b.die(0);
        b.die(1);
        Check.due("nobody alive", b.reserve(), 0);
        PainBank left = many(1, "account 0 50;dead 0");
        Check.due("the dead one's does not count", left.reserve(), 0);
        Check.due("nothing", many(8, "").reserve(), 0);
    }

    private static void feelings() {
        Check.sentence("FALSE (0, if fewer than two are such).", 30);
        int[] due = {0, 0, 1, 2, 2, 3, 3, 3, 3};
        StringBuilder text = new StringBuilder("rate 2");
        for (int n = 0; n <= 8; n++) {
            PainBank b = many(8, text.toString());
            Check.due("of " + n, b.feelings(), due[n]);
            text.append(";account ").append(n).append(" 1");
        }
        Check.due("nobody", new PainBank().feelings(), 0);
        Check.sentence("of all ALIVE with an ACCOUNT above 0 just one is FORGED", 30);
        PainBank b = many(4, "account 0 1;account 1 1;account 2 1;account 3 0");
        Check.due("three", b.feelings(), 2);
        b.die(0);
        Check.due("two", b.feelings(), 1);
        Check.rightBank(b, "account 0 1");
        Check.due("the dead are none", b.feelings(), 1);
        Check.rightBank(b, "account 3 1");
        Check.due("three", b.feelings(), 2);
    }

    private static void saints() {
        Check.sentence("IndexOutOfBoundsException: there is no such WEEKDAY. ## Promise 32", 31);
        PainBank b = Check.banked("person bears 9 pain 1000002");
        Check.outside("-1", () -> b.saint(0, -1, false));
        Check.due("0", b.saint(1, 0, false), 1);
        Check.due("6", b.saint(2, 6, false), 1);
        Check.outside("7", () -> b.saint(0, 7, true));
        Check.outside("the most", () -> b.saint(0, MOST, true));
        Check.outside("the least", () -> b.saint(0, LEAST, false));
        Check.outside("nobody, no weekday", () -> new PainBank().saint(0, 7, false));
    }

    private static void saintSets() {
        Check.sentence("sets of PEOPLE whose PAINS of a WEEKDAY make it together: how many", 31);
        PainBank b = Check.banked("person bears 9 pain 1000000;person bears 9 pain 2000000;person bears 9 pain 3000000");
        int[] due = {1, 1, 1, 2, 1, 1, 1, 0};
        for (int sum = 0; sum < due.length; sum++) {
            Check.due("sets of " + sum, b.saint(sum, 0, false), due[sum]);
        }
        Check.due("below 0", b.saint(-1, 0, false), 0);
        Check.due("the most", b.saint(MOST, 0, false), 0);
        Check.due("the least", b.saint(LEAST, 0, false), 0);
        Check.due("all without pain", b.saint(0, 1, false), 8);
        Check.due("nobody makes 0", new PainBank().saint(0, 0, false), 1);
        Check.due("nobody makes 1", new PainBank().saint(1, 0, false), 0);
        PainBank full = many(8, "");
        Check.due("all sets of eight", full.saint(0, 6, false), 256);
        PainBank nines = Check.banked(TextEdges.people(7).replace("0000000", "9999999"), "person bears 9 pain 9999999");
        Check.due("72", nines.saint(72, 3, false), 1);
        Check.due("73", nines.saint(73, 3, false), 0);
        Check.due("71", nines.saint(71, 3, false), 0);
        Check.rightBank(nines, "dead 0");
        Check.due("the dead are people", nines.saint(72, 3, false), 1);
    }

    private static void sure() {
        Check.sentence("SURE: those in all of them, as bits (0 without)", 31);
        PainBank b = Check.banked("person bears 9 pain 1000000;person bears 9 pain 2000000;person bears 9 pain 3000000");
        int[] due = {0, 1, 2, 0, 5, 6, 7, 0};
        for (int sum = 0; sum < due.length; sum++) {
            Check.due("sure of " + sum, b.saint(sum, 0, true), due[sum]);
        }
        Check.due("below 0", b.saint(-1, 0, true), 0);
        Check.due("of no pain nobody is sure", b.saint(0, 1, true), 0);
        Check.due("nor is the only one, for the set of nobody makes it, too", many(1, "").saint(0, 0, true), 0);
        Check.due("nobody", new PainBank().saint(0, 0, true), 0);
        Check.due("nobody", new PainBank().saint(5, 0, true), 0);
        PainBank nines = Check.banked(TextEdges.people(8).replace("0000000", "9999999"));
        Check.due("all eight", nines.saint(72, 3, true), 255);
        Check.due("seven of eight", nines.saint(63, 3, true), 0);
        Check.rightBank(nines, "dead 7;dead 6");
        Check.due("the dead are people", nines.saint(72, 3, true), 255);
    }

    private static void share() {
        Check.sentence("two ALIVE FEEL both their PAINS of today and both ACCOUNTS together: whether that is no more than both BEAR together", 32);
        // Both bear 14, the pains are 5 together.
        String two = "person bears 8 pain 3900000;person bears 6 pain 2900000;account 0 4;account 1 ";
        Check.due("13", Check.banked(two + "4").share(0, 1), true);
        Check.due("14", Check.banked(two + "5").share(0, 1), true);
        Check.due("15", Check.banked(two + "6").share(0, 1), false);
        Check.due("either way", Check.banked(two + "5").share(1, 0), true);
        PainBank pains = Check.banked("person bears 1 pain 1200000;person bears 1 pain 1100000");
        Check.due("just", pains.share(0, 1), true);
        Check.rightLaw(pains, "", 0);
        pains.days(1);
        Check.due("by the pains of today", pains.share(0, 1), false);
        Check.due("failed", ActEdges.failed().share(0, 2), false);
    }

    private static void shares() {
        Check.sentence("in how many DAYS from today on (1 to 40) both could have felt all so at the soonest", 33);
        int[][] due = {{0, 0}, {1, 1}, {17, 1}, {18, 1}, {19, 2}, {36, 2}, {37, 3}, {702, 39}, {703, 40}, {720, 40}, {721, -1}, {99999, -1}};
        for (int[] row : due) {
            PainBank b = many(2, "account 1 " + row[0] + ";rate 20;vault 0");
            Check.due("shares of " + row[0], b.shares(0, 1), row[1]);
            Check.due("either way", b.shares(1, 0), row[1]);
        }
        Check.sentence("TWO share: in how many DAYS (0, if both have nothing); NONE.", 33);
        PainBank none = Check.banked("person bears 1 pain 9999999;person bears 1 pain 9999999");
        Check.due("nothing, though the pains are more", none.shares(0, 1), 0);
        Check.rightBank(none, "account 0 1");
        Check.due("never", none.shares(0, 1), -1);
    }

    private static void sharesFirstPains() {
        Check.sentence("PAINS of that DAY first (if these alone are more: nothing more that DAY; nothing is PUT, DRAWN, no interest); none", 33);
        // Both bear 10: room for 10, 0 (the pains are 12), 0 (just 10), 1, 10 ..
        String two = "person bears 5 pain 0659000;person bears 5 pain 0650000;rate 20;account 0 ";
        int[][] due = {{10, 1}, {11, 4}, {12, 5}, {21, 5}, {22, 6}, {41, 7}, {42, 8}};
        for (int[] row : due) {
            Check.due("shares of " + row[0], Check.banked(two + row[0]).shares(0, 1), row[1]);
        }
        PainBank b = Check.banked(two + "11;vault 99999");
        Check.rightLaw(b, "", 0);
        b.days(3);
        Check.due("from today on", b.shares(0, 1), 2);
    }

    private static void sharesDead() {
        Check.sentence("TWO share: whether it is no more. IllegalArgumentException: both are one; IllegalStateException: one is dead.", 32);
        PainBank b = many(4, "dead 1;dead 2");
        Check.none("both 0", () -> b.share(0, 0) ? 1 : 0);
        Check.cannot("the other is dead", () -> b.share(0, 1) ? 1 : 0);
        Check.cannot("the first is dead", () -> b.share(1, 0) ? 1 : 0);
        Check.cannot("both are dead", () -> b.share(1, 2) ? 1 : 0);
        Check.outside("4", () -> b.share(0, 4) ? 1 : 0);
        Check.outside("4", () -> b.share(4, 0) ? 1 : 0);
        Check.outside("-1", () -> b.share(-1, 0) ? 1 : 0);
        Check.due("none is", b.share(0, 3), true);
        Check.sentence("(0, if both have nothing); NONE. IllegalArgumentException: both are one; IllegalStateException: one is dead.", 33);
        Check.none("both 0", () -> b.shares(0, 0));
        Check.cannot("the other is dead", () -> b.shares(0, 1));
        Check.cannot("the first is dead", () -> b.shares(1, 0));
        Check.outside("4", () -> b.shares(0, 4));
        Check.outside("4", () -> b.shares(4, 0));
        Check.outside("-1", () -> b.shares(0, -1));
        Check.due("none is", b.shares(0, 3), 0);
    }

    private static void could() {
        Check.sentence("COULD bear: PEOPLE ALIVE who could FEEL what one has on the ACCOUNT today beside PAIN of today, as bits.", 34);
        String three = "person bears 8 pain 3000000;person bears 5 pain 0000000;person bears 4 pain 9000000;account 0 ";
        int[][] due = {{0, 3}, {4, 3}, {5, 3}, {6, 0}, {99999, 0}};
        for (int[] row : due) {
            Check.due("could bear " + row[0], Check.banked(three + row[0]).could(0), row[1]);
        }
        Check.due("0", Check.banked(three + "0").could(2), 3);
        PainBank b = Check.banked(three + "5;dead 1");
        Check.due("of those alive", b.could(0), 1);
        Check.due("what a dead one has", Check.banked(three + "5;dead 0").could(0), 2);
        Check.due("forged is of the account", Check.banked(three + "6;forged 0 6").could(0), 0);
        PainBank later = Check.banked(three + "5");
        Check.rightLaw(later, "", 0);
        later.days(1);
        Check.due("by the pain of today: 3 and 4 are gone", later.could(0), 3);
        Check.rightBank(later, "account 0 8");
        Check.due("by the pain of today", later.could(0), 1);
        Check.rightBank(later, "account 0 4");
        Check.due("by the pain of today", later.could(0), 7);
        Check.outside("3", () -> b.could(3));
        Check.outside("-1", () -> b.could(-1));
    }

    private static void fewest() {
        Check.sentence("the fewest ALIVE whose BEARS less PAIN of today (0 at least), together, are all ACCOUNTS together at least", 35);
        // There is room for 5, 0 and 7.
        String three = "person bears 8 pain 3000000;person bears 5 pain 9000000;person bears 7 pain 0000000;account 1 ";
        int[][] due = {{0, 0}, {1, 1}, {5, 1}, {6, 4}, {7, 4}, {8, 5}, {11, 5}, {12, 5}, {13, -1}};
        for (int[] row : due) {
            Check.due("fewest for " + row[0], Check.banked(three + row[0]).fewest(), row[1]);
        }
        Check.due("nobody", new PainBank().fewest(), 0);
        Check.due("of those alive", Check.banked(three + "5;dead 0").fewest(), 4);
        Check.due("none", Check.banked(three + "8;dead 0").fewest(), -1);
        Check.due("the dead one's account counts", Check.banked(three + "1;dead 1").fewest(), 1);
        Check.due("all dead", Check.banked(three + "0;dead 0;dead 1;dead 2").fewest(), 0);
        PainBank later = Check.banked(three + "20");
        Check.rightLaw(later, "", 0);
        Check.due("today there is not room enough", later.fewest(), -1);
        later.days(1);
        Check.due("by the pain of today there is", later.fewest(), 7);
        Check.rightBank(later, "account 1 8");
        Check.due("by the pain of today one is enough", later.fewest(), 1);
    }

    private static void fewestBits() {
        Check.sentence("are all ACCOUNTS together at least: of several the least as bits; none", 35);
        Check.due("the first", many(8, "account 7 9").fewest(), 1);
        Check.due("two", many(8, "account 7 10").fewest(), 3);
        Check.due("all", many(8, "account 7 72").fewest(), 255);
        Check.due("none", many(8, "account 7 73").fewest(), -1);
        PainBank b = Check.banked("person bears 1 pain 0000000;person bears 9 pain 0000000;person bears 9 pain 0000000;account 0 10");
        Check.due("the least of two pairs", b.fewest(), 3);
        Check.rightBank(b, "account 0 11");
        Check.due("the other pair", b.fewest(), 6);
    }

    private static void quiet() {
        Check.sentence("QUIET: the WEEKDAY on which all ALIVE together have the least PAIN (of several the least); how much.", 36);
        String[] pains = {"1234567", "7654321", "2111111", "9999999", "0000000", "9999998"};
        int[] day = {0, 6, 1, 0, 0, 6};
        int[] much = {1, 1, 1, 9, 0, 8};
        for (int i = 0; i < pains.length; i++) {
            PainBank b = Check.banked("person bears 9 pain " + pains[i] + ";person bears 9 pain 0000000");
            Check.due("quiet of " + pains[i], b.quiet(false), day[i]);
            Check.due("much of " + pains[i], b.quiet(true), much[i]);
        }
        Check.due("nobody", new PainBank().quiet(false), 0);
        Check.due("nobody", new PainBank().quiet(true), 0);
        PainBank b = Check.banked("person bears 9 pain 9000000;person bears 9 pain 0111111");
        Check.due("of both", b.quiet(false), 1);
        b.die(0);
        Check.due("of those alive", b.quiet(false), 0);
        b.die(1);
        Check.due("of nobody alive", b.quiet(false) + b.quiet(true), 0);
        PainBank dead = Check.banked("person bears 9 pain 2111111;person bears 9 pain 0999999;dead 1");
        Check.due("the dead one's pain does not count", dead.quiet(false), 1);
        Check.due("the dead one's pain does not count", dead.quiet(true), 1);
    }

    private static void parted() {
        Check.sentence("PARTED: all ALIVE in two parts, so that what both have on ACCOUNTS differs the least: by how much", 39);
        Check.due("nobody", new PainBank().parted(false), 0);
        Check.due("one", many(1, "account 0 99999").parted(false), 99999);
        Check.due("two", many(2, "account 0 50;account 1 49").parted(false), 1);
        Check.due("two alike", many(2, "account 0 50;account 1 50").parted(false), 0);
        Check.due("three", many(3, "account 0 7;account 1 5;account 2 3").parted(false), 1);
        PainBank b = many(4, "account 0 8;account 1 5;account 2 3;account 3 90;dead 3");
        Check.due("of those alive", b.parted(false), 0);
        b.die(0);
        Check.due("of those alive", b.parted(false), 2);
        StringBuilder rich = new StringBuilder("rate 2");
        for (int p = 0; p < 7; p++) {
            rich.append(";account ").append(p).append(" 99999");
        }
        Check.due("the most", many(7, rich.toString()).parted(false), 99999);
    }

    private static void partedBits() {
        Check.sentence("one of these parts: of all such the least as bits", 39);
        Check.due("nobody", new PainBank().parted(true), 0);
        Check.due("one: an empty part is the least", many(1, "account 0 50").parted(true), 0);
        Check.due("nothing: an empty part is the least", many(8, "").parted(true), 0);
        Check.due("0 against 1", many(2, "account 0 50;account 1 49").parted(true), 1);
        Check.due("7 against 5 and 3", many(3, "account 0 7;account 1 5;account 2 3").parted(true), 1);
        Check.due("3 against 5 and 8", many(3, "account 0 5;account 1 3;account 2 8").parted(true), 3);
        PainBank b = many(4, "account 0 90;account 1 5;account 2 3;account 3 8;dead 0");
        Check.due("of those alive", b.parted(true), 6);
        PainBank dead = many(2, "account 0 5;account 1 5;dead 0");
        Check.due("the dead are in no part", dead.parted(true), 0);
        Check.due("the dead are in no part", dead.parted(false), 5);
        PainBank last = many(3, "account 0 5;account 1 6;account 2 4;dead 2");
        Check.due("nor is the last one", last.parted(true), 1);
        Check.due("nor is the last one", last.parted(false), 1);
    }

    private static void ranks() {
        Check.sentence("RANK of a PERSON ALIVE: how many others ALIVE FEEL more TODAY.", 40);
        PainBank b = Check.banked("person bears 9 pain 3000000;person bears 9 pain 5000000;person bears 9 pain 5000000;person bears 9 pain 9000000",
            "person bears 9 pain 6000000;dead 4");
        int[] due = {3, 1, 1, 0};
        for (int p = 0; p < 4; p++) {
            Check.due("rank of " + p, b.rank(p), due[p]);
        }
        Check.cannot("dead", () -> b.rank(4));
        Check.outside("5", () -> b.rank(5));
        Check.outside("-1", () -> b.rank(-1));
        Check.rightBank(b, "account 0 6");
        Check.due("by what is drawn", b.rank(0), 0);
        Check.due("alike are not more", b.rank(3), 0);
        Check.rightBank(b, "vault 0;account 1 3;fall 100");
        // 1 draws 3 of 3 and feels 8; 0 feels 9 and none is left.
        Check.due("rank of 1", b.rank(1), 2);
        Check.due("nothing stays", b.count(4) + b.count(11), 0);
        Check.due("one alone", many(1, "").rank(0), 0);
    }

    private static void strikes() {
        Check.sentence("STRIKE: for all two PEOPLE together the lesser of what they owe each other.", 41);
        Check.due("nobody", new PainBank().strike(), 0);
        Check.due("one way", many(2, "owes 0 1 9999").strike(), 0);
        Check.due("the lesser", many(2, "owes 0 1 9999;owes 1 0 1").strike(), 1);
        Check.due("alike", many(2, "owes 0 1 7;owes 1 0 7").strike(), 7);
        Check.due("two pairs", many(8, "owes 0 1 7;owes 1 0 8;owes 7 6 5;owes 6 7 4").strike(), 11);
        Check.due("of one in two pairs", many(3, "owes 0 1 7;owes 1 0 8;owes 2 0 5;owes 0 2 4").strike(), 11);
        PainBank b = new PainBank();
        Check.tell(b, TextEdges.people(8));
        int texts = 1;
        for (int p = 0; p < 8; p++) {
            StringBuilder text = new StringBuilder("rate 2");
            for (int q = 0; q < 8; q++) {
                text.append(p == q ? "" : ";owes " + p + " " + q + " 9999");
            }
            Check.rightBank(b, text.toString());
            texts++;
        }
        Check.due("texts", b.count(2), texts);
        Check.due("all owe all the most", b.strike(), 28 * 9999);
        Check.due("nets", b.person(3, 6), 0);
        Check.due("nothing is to be paid", b.netted(), 0);
        Check.due("ring", b.ring(7), 2);
    }
}
