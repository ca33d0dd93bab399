/** The edges of a day: draws, falls, what is felt, interest, the vault, the last day, too much, the log. */
final class DayEdges {
    private static final String CALM = "vault 99999;rate 0;";
    private static final String LATE = "999+999+999+999+999+999+999+999+999+999";

    private DayEdges() {
    }

    static void run() {
        draws();
        seeds();
        rain();
        falls();
        fallsInTheLaw();
        eachOneAlive();
        nothingWhenFailed();
        feels();
        fullAccount();
        forgedFirst();
        interestDay();
        interestRoundedUp();
        interestFull();
        interestOfTheDead();
        vault();
        vaultAfterInterest();
        failing();
        tooMuch();
        lastDay();
        daysToComeAtTheLast();
        sixtyRows();
        rowsOfADay();
    }

    private static PainBank one(String rest) {
        return Check.banked("person bears 9 pain 0000000;" + CALM + rest);
    }

    /** A bank at this day, with nothing put or drawn until then. */
    private static PainBank at(int day, String text) {
        PainBank b = Check.banked(text);
        Check.rule(b, "");
        for (int left = day; left > 0; left -= 60) {
            b.days(Math.min(60, left));
        }
        return b;
    }

    private static void draws() {
        Check.sentence("DRAW: SEED is 1103515245 times SEED and 12345, as an int that goes round; bits 16 to 30 (SEED 1 at first).", 19, 46);
        PainBank nobody = new PainBank();
        for (int seed : new int[] {1, 1103527590, -1770082073, 662824084}) {
            Check.due("seed", nobody.seed(seed), seed);
            nobody.days(1);
        }
        Check.due("a day of nobody draws once", nobody.seed(1), -999580867);
        // From 1 on the draws are 16838, 5758, 10113, 17515, 31051, 5627, 23010, 7419: of each two the first is the rain's.
        int[] draws = {38, 13, 51, 10};
        for (int day = 0; day < draws.length; day++) {
            for (int more = 0; more < 2; more++) {
                PainBank b = Check.banked("person bears 9 pain 1111111;" + CALM + "rain " + (draws[day] + more));
                Check.rule(b, "put 1 if wet and day + 1 > " + day);
                if (day > 0) {
                    b.days(day);
                }
                b.days(1);
                Check.due("put on day " + day + " with " + more + " more", b.person(0, 1), more);
            }
        }
    }

    private static void seeds() {
        Check.sentence("as an int that goes round; bits 16 to 30", 19, 46);
        // The next SEED is 0x80003039 from the least int, 12345 from 0: both draw 0.
        for (int seed : new int[] {Integer.MIN_VALUE, 0}) {
            for (int rain = 0; rain < 2; rain++) {
                PainBank b = Check.banked("person bears 9 pain 1111111;rain " + rain);
                Check.rule(b, "put 1 if wet");
                b.seed(seed);
                b.days(1);
                Check.due("wet by " + rain + " from " + seed, b.person(0, 1), rain);
            }
        }
        PainBank b = new PainBank();
        b.seed(Integer.MIN_VALUE);
        b.days(1);
        Check.due("goes round", b.seed(Integer.MAX_VALUE), 0x80003039);
        b.days(1);
        Check.due("goes round", b.seed(-1), 1103515245 * Integer.MAX_VALUE + 12345);
        b.days(1);
        Check.due("goes round", b.seed(1), 12345 - 1103515245);
        // From -1770082073 the draw is 10113.
        for (int rain = 13; rain < 15; rain++) {
            PainBank w = Check.banked("person bears 9 pain 1111111;rain " + rain);
            Check.rule(w, "put 1 if wet");
            w.seed(-1770082073);
            w.days(1);
            Check.due("wet by " + rain, w.person(0, 1), rain - 13);
        }
    }

    private static void rain() {
        Check.sentence("it rains, if DRAW modulo 100 is below RAIN", 19, 42);
        // The first draw is 16838.
        int[][] due = {{0, 0}, {37, 0}, {38, 0}, {39, 1}, {100, 1}};
        for (int[] row : due) {
            PainBank b = Check.banked("person bears 9 pain 1111111;" + CALM + "rain " + row[0]);
            Check.rule(b, "put 1 if wet");
            Check.due("trial by " + row[0], b.trial(1, true), row[1]);
            b.days(1);
            Check.due("wet by " + row[0], b.person(0, 1), row[1]);
        }
        PainBank never = Check.banked("person bears 9 pain 1111111;" + CALM + "rain 0");
        Check.rule(never, "put 1 if wet");
        never.days(60);
        Check.due("never by 0", never.person(0, 1), 0);
        PainBank always = Check.banked("person bears 9 pain 1111111;" + CALM + "rain 100");
        Check.rule(always, "put 1 if wet");
        always.days(60);
        Check.due("always by 100", always.person(0, 1), 60);
    }

    private static void falls() {
        Check.sentence("DRAW modulo 100 below FALL: PAIN is 5 more today", 19, 42);
        // The second draw is 5758, the third 10113.
        int[][] due = {{0, 1, 1}, {13, 1, 1}, {14, 1, 6}, {58, 1, 6}, {59, 6, 6}, {100, 6, 6}};
        for (int[] row : due) {
            PainBank b = Check.banked("person bears 1 pain 1111111;person bears 1 pain 1111111;" + CALM + "fall " + row[0]);
            Check.rule(b, "");
            int times = (row[1] > 1 ? 1 : 0) + (row[2] > 1 ? 1 : 0);
            Check.due("trial by " + row[0], b.trial(1, false), times);
            Check.due("days by " + row[0], b.days(1), times);
            Check.due("felt by 0", b.led(0, true), row[1] > 1 ? 6 : 0);
            Check.due("felt by 1", b.led(1, true), row[2] > 1 ? 6 : 0);
        }
        // 9 and 5 are 14: no more than 14.
        for (int bears = 13; bears < 15; bears++) {
            PainBank b = Check.banked("person bears " + bears + " pain 9999999;fall 100");
            Check.rule(b, "");
            Check.due("times by " + bears, b.days(60), bears == 13 ? 60 : 0);
        }
        PainBank never = Check.banked("person bears 9 pain 9999999;fall 0");
        Check.rule(never, "");
        Check.due("never by 0", never.days(60), 0);
    }

    private static void fallsInTheLaw() {
        Check.sentence("PAIN is 5 more today (in THE LAW, too)", 19, 5);
        PainBank b = Check.banked("person bears 9 pain 1111111;" + CALM + "fall 100");
        Check.rule(b, "put 2 if pain > 5 and pain < 7");
        b.days(1);
        Check.due("6 is the pain", b.person(0, 1), 2);
        Check.rule(b, "put 99");
        b.days(1);
        Check.due("6 at most are put", b.person(0, 1), 8);
        PainBank without = Check.banked("person bears 4 pain 1111111;" + CALM + "fall 100");
        without.days(1);
        Check.due("without a text, too", without.person(0, 1), 2);
        Check.due("tomorrow it is as before", without.today(0, 0), 0);
    }

    private static void eachOneAlive() {
        Check.sentence("Each PERSON ALIVE, by numbers", 19, 46);
        // Draws: rain, then one for each alive; the second is 58, the third 13.
        PainBank b = Check.banked("person bears 1 pain 1111111;person bears 1 pain 1111111;" + CALM + "fall 14");
        Check.rule(b, "");
        b.days(1);
        Check.due("1 falls", b.log(0, 1), 1);
        Check.due("0 does not", b.count(13), 1);
        b.undo();
        b.die(0);
        b.days(1);
        Check.due("the dead do not draw", b.count(13), 0);
        Check.due("seed", b.seed(1), -1770082073);
        PainBank dead = Check.banked("person bears 1 pain 9999999;" + CALM + "fall 100;dead 0");
        Check.due("the dead feel nothing", dead.days(60), 0);
        dead.seed(1);
        dead.days(1);
        Check.due("and draw nothing", dead.seed(1), 1103527590);
    }

    private static void nothingWhenFailed() {
        Check.sentence("(nothing is PUT, nothing DRAWN, if the bank FAILED)", 10, 19, 20);
        PainBank b = Check.banked("person bears 5 pain 9000000;person bears 5 pain 0000000;account 0 1;vault 0;rate 0");
        b.days(1);
        Check.due("failed", b.count(11), 1);
        Check.rightBank(b, "vault 99999;account 1 50");
        b.days(6);
        Check.due("nothing is drawn", b.person(1, 1), 50);
        Check.due("put today", b.today(0, 0), 0);
        Check.due("felt today", b.today(0, 2), 9);
        Check.due("drawn today", b.today(1, 1), 0);
        Check.due("ahead", b.ahead(1, 60), 50);
        Check.rightLaw(b, "put 9;draw 9", 2);
        Check.due("nor by a law", b.today(0, 0) + b.today(1, 1), 0);
        Check.due("nothing put", b.ahead(0, 60), 0);
        b.refound();
        Check.due("when refounded it is", b.today(0, 0), 9);
        Check.due("and drawn", b.today(1, 1), 9);
        // On the day on which it fails there was still put and drawn, on the next one nothing is.
        PainBank c = Check.banked("person bears 5 pain 4444444;account 0 50;vault 0;rate 0");
        Check.rightLaw(c, "put 3;draw 2", 2);
        Check.due("put", c.today(0, 0), 3);
        Check.due("drawn", c.today(0, 1), 2);
        c.days(1);
        Check.rightBank(c, "vault 99999;account 0 50");
        c.days(1);
        Check.due("neither", c.person(0, 1), 50);
        Check.due("neither", c.today(0, 0) + c.today(0, 1), 0);
        Check.due("pain alone", c.today(0, 2), 4);
    }

    private static void feels() {
        Check.sentence("FEELS: PAIN less PUT, and DRAWN", 10, 19);
        PainBank b = Check.banked("person bears 9 pain 9000000;account 0 50");
        int[][] due = {{0, 0, 9}, {9, 0, 0}, {8, 0, 1}, {0, 50, 59}, {9, 50, 50}, {4, 3, 8}};
        for (int[] row : due) {
            Check.rule(b, "put " + row[0] + ";draw " + row[1]);
            Check.due("felt by put " + row[0] + ", draw " + row[1], b.today(0, 2), row[2]);
        }
    }

    private static void fullAccount() {
        Check.sentence("(99999 at most: what is above is felt at once, too)", 19, 10, 20);
        int[][] due = {{99989, 9, 0}, {99990, 9, 0}, {99991, 9, 1}, {99998, 9, 8}, {99999, 9, 9}};
        for (int[] row : due) {
            PainBank b = Check.banked("person bears 9 pain 9999999;" + CALM + "account 0 " + row[0]);
            Check.rule(b, "put 99");
            Check.due("put with " + row[0], b.today(0, 0), row[1]);
            Check.due("felt with " + row[0], b.today(0, 2), row[2]);
            Check.due("ahead with " + row[0], b.ahead(0, 1), Math.min(99999, row[0] + 9));
            b.days(1);
            Check.due("account with " + row[0], b.person(0, 1), Math.min(99999, row[0] + 9));
        }
        PainBank b = Check.banked("person bears 9 pain 9999999;" + CALM + "account 0 99999");
        // What is drawn makes room for what is put.
        Check.rule(b, "put 9;draw 8");
        Check.due("felt", b.today(0, 2), 9);
        Check.rule(b, "put 9;draw 9");
        Check.due("felt", b.today(0, 2), 9);
        Check.rule(b, "put 9;draw 10");
        Check.due("felt", b.today(0, 2), 10);
        Check.due("account", b.ahead(0, 1), 99998);
    }

    private static void forgedFirst() {
        Check.sentence("of DRAWN pain FORGED goes first: it is not felt", 19, 10);
        int[][] due = {{4, 0, 1}, {5, 0, 0}, {6, 1, 0}};
        for (int[] row : due) {
            PainBank b = one("account 0 50;forged 0 5");
            Check.rule(b, "draw " + row[0]);
            Check.due("drawn of " + row[0], b.today(0, 1), row[0]);
            Check.due("felt of " + row[0], b.today(0, 2), row[1]);
            b.days(1);
            Check.due("forged after " + row[0], b.person(0, 2), row[2]);
            Check.due("account after " + row[0], b.person(0, 1), 50 - row[0]);
        }
    }

    private static void interestDay() {
        Check.sentence("if DAY and 1 is a multiple of 10", 19, 20, 24);
        PainBank b = Check.banked("person bears 9 pain 0000000;account 0 100;vault 99999;rate 10");
        Check.rule(b, "");
        int[][] due = {{8, 100}, {9, 100}, {10, 110}, {11, 110}, {19, 110}, {20, 121}, {21, 121}, {30, 134}, {60, 180}};
        for (int[] row : due) {
            Check.due("ahead " + row[0], b.ahead(0, row[0]), row[1]);
            Check.due("cost " + row[0], b.cost(0, row[0]), row[1] - 100);
        }
        b.days(9);
        Check.due("by days 0 to 8", b.person(0, 1), 100);
        b.days(1);
        Check.due("by day 9", b.person(0, 1), 110);
        b.days(1);
        Check.due("by day 10", b.person(0, 1), 110);
    }

    /** What an account is after its day of interest. */
    private static int grown(int account, int rate) {
        PainBank b = Check.banked("person bears 9 pain 0000000;vault 99999;rate " + rate + ";account 0 " + account);
        Check.rule(b, "");
        b.days(10);
        Check.due("cost is the same", Check.banked("person bears 9 pain 0000000;rate " + rate + ";account 0 " + account).cost(0, 10),
            b.person(0, 1) - account);
        return b.person(0, 1);
    }

    private static void interestRoundedUp() {
        Check.sentence("more by RATE in the hundred, rounded up", 19, 24);
        int[][] due = {{0, 2, 0}, {1, 2, 2}, {49, 2, 50}, {50, 2, 51}, {51, 2, 53}, {100, 2, 102}, {101, 2, 104}, {99, 0, 99}, {1, 0, 1},
            {99, 1, 100}, {100, 1, 101}, {101, 1, 103}, {4, 20, 5}, {5, 20, 6}, {6, 20, 8}, {0, 20, 0}};
        for (int[] row : due) {
            Check.due(row[0] + " by " + row[1], grown(row[0], row[1]), row[2]);
        }
    }

    private static void interestFull() {
        Check.sentence("rounded up (99999 at most)", 19, 24);
        int[][] due = {{98037, 2, 99998}, {98038, 2, 99999}, {98039, 2, 99999}, {99999, 2, 99999}, {99999, 20, 99999}, {99999, 0, 99999},
            {83332, 20, 99999}, {83333, 20, 99999}, {83331, 20, 99998}};
        for (int[] row : due) {
            Check.due(row[0] + " by " + row[1], grown(row[0], row[1]), row[2]);
        }
    }

    private static void interestOfTheDead() {
        Check.sentence("each ACCOUNT of one ALIVE is more by RATE", 19, 20);
        PainBank b = Check.banked("person bears 9 pain 0000000;person bears 9 pain 0000000;account 0 100;account 1 100;dead 0");
        Check.rule(b, "");
        Check.due("dead", b.ahead(0, 10), 100);
        Check.due("alive", b.ahead(1, 10), 102);
        b.days(10);
        Check.due("together", b.count(9), 202);
    }

    private static void vault() {
        Check.sentence("If all ACCOUNTS together are above what THE VAULT holds: the bank FAILED", 19, 21, 50);
        int[][] due = {{58, 1}, {59, 1}, {60, 0}, {61, 0}};
        for (int[] row : due) {
            PainBank b = Check.banked("person bears 99 pain 0000000;person bears 99 pain 0000000;account 0 50;account 1 10;vault " + row[0]);
            Check.rule(b, "");
            Check.due("now with " + row[0], b.count(11), 0);
            Check.due("ahead with " + row[0], b.fails(1), row[1] == 1);
            b.days(1);
            Check.due("with " + row[0], b.count(11), row[1]);
        }
        PainBank none = Check.banked("person bears 99 pain 0000000;vault 0");
        none.days(60);
        Check.due("0 are not above 0", none.count(11), 0);
        PainBank dead = Check.banked("person bears 9 pain 0000000;person bears 9 pain 0000000;account 0 50;account 1 10;dead 1;vault 59");
        Check.rule(dead, "");
        dead.days(1);
        Check.due("the dead one's counts, too", dead.count(11), 1);
        PainBank full = Check.banked(TextEdges.people(8), "account 0 99999;vault 99999;account 1 1");
        Check.rule(full, "");
        full.days(1);
        Check.due("above 99999", full.count(11), 1);
    }

    private static void vaultAfterInterest() {
        Check.sentence("Then, if DAY and 1 is a multiple of 10", 19, 21);
        PainBank b = Check.banked("person bears 99 pain 0000000;account 0 50;vault 50");
        Check.rule(b, "");
        Check.due("9 days", b.fails(9), false);
        Check.due("the 10th, by interest", b.fails(10), true);
        Check.rightBank(b, "vault 51");
        Check.due("no more than it holds", b.fails(10), false);
        Check.due("the 20th", b.fails(20), true);
        // Put ahead of interest, both ahead of the vault.
        PainBank p = Check.banked("person bears 99 pain 9999999;account 0 41;vault 50;rate 2");
        Check.rule(p, "put 9 if day > 8");
        Check.due("41 and 9 and 1", p.fails(10), true);
        Check.due("needed", p.needed(10), 51);
    }

    private static void failing() {
        Check.sentence("each one ALIVE FEELS all of one's ACCOUNT on that DAY, too (not what is FORGED), and it is 0, FORGED too", 19, 10);
        PainBank b = Check.banked("person bears 42 pain 2222222;person bears 42 pain 0000000;account 0 50;forged 0 10;account 1 7;forged 1 7;vault 0");
        Check.rightBank(b, "person bears 1 pain 9999999;account 2 30;forged 2 4;dead 2");
        Check.rule(b, "");
        Check.due("felt", b.today(0, 2), 42);
        Check.due("nothing but forged", b.today(1, 2), 0);
        Check.due("42 are not too much", b.days(1), 0);
        Check.due("account", b.person(0, 1), 0);
        Check.due("forged", b.person(0, 2), 0);
        Check.due("account", b.person(1, 1), 0);
        Check.due("forged", b.person(1, 2), 0);
        Check.due("the dead one's stays", b.person(2, 1), 30);
        Check.due("the dead one's forged stays", b.person(2, 2), 4);
        PainBank c = Check.banked("person bears 41 pain 2222222;account 0 50;forged 0 10;vault 0");
        Check.rule(c, "");
        Check.due("42 are more than 41", c.days(1), 1);
        Check.due("felt", c.log(0, 2), 42);
        // Of what is drawn on that day forged goes first.
        PainBank d = Check.banked("person bears 42 pain 0000000;account 0 50;forged 0 10;vault 0");
        Check.rule(d, "draw 12");
        Check.due("2 by the law, 38 by the vault", d.today(0, 2), 40);
    }

    private static void tooMuch() {
        Check.sentence("TOO MUCH: one FEELS more than one BEARS.", 19, 50);
        int[][] due = {{8, 1}, {9, 0}, {10, 0}};
        for (int[] row : due) {
            PainBank b = Check.banked("person bears " + row[0] + " pain 9999999");
            Check.rule(b, "");
            Check.due("first by " + row[0], b.first(false), row[1] == 1 ? 1 : -1);
            Check.due("days by " + row[0], b.days(3), 3 * row[1]);
            Check.due("in all", b.count(12), 3 * row[1]);
            Check.due("rows", b.count(13), 3 * row[1]);
        }
    }

    private static void lastDay() {
        Check.sentence("DAY is 1 more (9999 at most", 19, 50);
        PainBank b = at(9998, "person bears 1 pain 0000000;account 0 50;rate 0");
        Check.due("day", b.count(4), 9998);
        b.days(1);
        Check.due("day", b.count(4), 9999);
        b.days(1);
        Check.due("day", b.count(4), 9999);
        b.days(60);
        Check.due("day", b.count(4), 9999);
        // All but the count goes on: what is drawn, what is too much, the log.
        Check.rightLaw(b, "draw 2 if day > " + LATE + "+8", 1);
        Check.due("times", b.days(2), 2);
        Check.due("account", b.person(0, 1), 46);
        Check.due("log", b.log(0, 0), 9999);
        Check.due("log", b.log(1, 0), 9999);
        b.undo();
        Check.due("day", b.count(4), 9999);
    }

    private static void daysToComeAtTheLast() {
        Check.sentence("so it is for all DAYS to come, too", 19, 20, 23, 24, 33, 37, 38);
        // 9997 is weekday 1, 9998 weekday 2, 9999 weekday 3; none is weekday 4.
        PainBank b = at(9997, "person bears 9 pain 0125999;person bears 9 pain 0000000;rate 0;vault 99999");
        Check.due("day", b.count(4), 9997);
        Check.rightBank(b, "account 0 100;rate 10");
        int[] cost = {0, 0, 0, 10, 21, 34};
        for (int n = 0; n < cost.length; n++) {
            Check.due("cost by " + n, b.cost(0, n), cost[n]);
            Check.due("ahead by " + n, b.ahead(0, n), 100 + cost[n]);
            Check.due("needed by " + n, b.needed(n), n == 0 ? 0 : 100 + cost[n]);
        }
        Check.due("peak", b.peak(0, 60, false), 5);
        Check.due("peak on", b.peak(0, 60, true), 2);
        Check.rightBank(b, "account 0 8");
        // Pains 1, 2, 5, 5, 5: under 6 there is room for 5, 4, 1, 1, 1.
        Check.due("plan", b.plan(0, 2, -1), 6);
        Check.rightBank(b, "account 0 12");
        Check.due("plan by 5", b.plan(0, 5, -1), 6);
        int[] parts = {5, 4, 1, 1, 1};
        for (int k = 0; k < 5; k++) {
            Check.due("part " + k, b.plan(0, 5, k), parts[k]);
        }
        // Both bear 18, and the pains are 1, 2, 5, 5: 17, 16, 13, 13.
        Check.rightBank(b, "account 0 59");
        Check.due("two", b.shares(0, 1), 4);
        Check.rightBank(b, "account 0 60");
        Check.due("two", b.shares(0, 1), 5);
        Check.rightLaw(b, "draw 1 if day > " + LATE + "+8", 1);
        Check.rightBank(b, "rate 0");
        Check.due("the day stays in laws", b.ahead(0, 10), 52);
    }

    private static void sixtyRows() {
        Check.sentence("THE LOG: the latest 60 on whom it was TOO MUCH: DAY, who, what one FELT, what one BEARS.", 45, 50);
        PainBank b = Check.banked("person bears 1 pain 2222222");
        Check.rule(b, "");
        b.days(59);
        Check.due("59", b.count(13), 59);
        Check.due("the oldest", b.log(58, 0), 0);
        Check.due("without", b.log(59, 0), -1);
        b.days(1);
        Check.due("60", b.count(13), 60);
        Check.due("the oldest", b.log(59, 0), 0);
        Check.due("without", b.log(60, 0), -1);
        b.days(1);
        Check.due("60", b.count(13), 60);
        Check.due("the latest", b.log(0, 0), 60);
        Check.due("the oldest", b.log(59, 0), 1);
        Check.due("without", b.log(60, 0), -1);
        Check.due("in all", b.count(12), 61);
        b.days(60);
        Check.due("the latest", b.log(0, 0), 120);
        Check.due("the oldest", b.log(59, 0), 61);
        for (int ago = 0; ago < 60; ago++) {
            Check.due("day of " + ago, b.log(ago, 0), 120 - ago);
        }
    }

    private static void rowsOfADay() {
        Check.sentence("the latest 60 on whom it was TOO MUCH", 45, 19);
        PainBank b = Check.banked("person bears 1 pain 2000000;person bears 2 pain 2000000;person bears 1 pain 3000000;fall 0");
        Check.rule(b, "");
        Check.due("times", b.days(1), 2);
        int[][] due = {{0, 2, 3, 1}, {0, 0, 2, 1}};
        for (int ago = 0; ago < 2; ago++) {
            for (int what = 0; what < 4; what++) {
                Check.due("log(" + ago + ", " + what + ")", b.log(ago, what), due[ago][what]);
            }
        }
    }
}
