/** The edges of acts, a sentence of the document each. */
final class ActEdges {
    private static final int MOST = Integer.MAX_VALUE;
    private static final int LEAST = Integer.MIN_VALUE;

    private ActEdges() {
    }

    static void run() {
        putNumbers();
        putFull();
        putNothingFelt();
        putDeadOrFailed();
        drawNumbers();
        drawForged();
        drawDeadOrFailed();
        chequeNumbers();
        chequeFull();
        chequeForged();
        chequeDeadOrFailed();
        chequeOfOne();
        oweNumbers();
        oweFull();
        oweOfOne();
        netting();
        nettingTies();
        nettingOfNothing();
        nettingAll();
        dying();
        dyingWithoutHeir();
        dyingFull();
        dyingTwice();
        hearing();
        refounding();
        days();
    }

    private static PainBank three(String rest) {
        return Check.banked(TextEdges.people(3), rest);
    }

    /** A bank that failed, where 0 and 1 have 50 each. */
    static PainBank failed() {
        PainBank b = three("account 0 1;vault 0");
        Check.rule(b, "");
        b.days(1);
        Check.tell(b, "vault 99999;account 0 50;account 1 50");
        Check.due("failed", b.count(11), 1);
        return b;
    }

    private static void putNumbers() {
        Check.sentence("IllegalArgumentException: n is none (1 to 9999), or the ACCOUNT would be above 99999", 11);
        PainBank b = three("");
        Check.none("0", () -> b.put(0, 0));
        Check.none("-1", () -> b.put(0, -1));
        Check.none("the least", () -> b.put(0, LEAST));
        Check.due("1", b.put(0, 1), 1);
        Check.due("2", b.put(0, 2), 3);
        Check.due("9998", b.put(1, 9998), 9998);
        Check.due("9999", b.put(2, 9999), 9999);
        Check.none("10000", () -> b.put(0, 10000));
        Check.none("the most", () -> b.put(0, MOST));
        Check.due("account", b.person(0, 1), 3);
        Check.outside("person 3", () -> b.put(3, 1));
        Check.outside("person -1", () -> b.put(-1, 1));
    }

    private static void putFull() {
        Check.sentence("or the ACCOUNT would be above 99999; IllegalStateException: one is dead, or the bank FAILED", 11);
        PainBank b = three("account 0 90000;account 1 99998;account 2 99999");
        Check.none("99999 and 1", () -> b.put(2, 1));
        Check.none("99998 and 2", () -> b.put(1, 2));
        Check.due("99998 and 1", b.put(1, 1), 99999);
        Check.none("99999 and 1", () -> b.put(1, 1));
        Check.due("90000 and 9998", b.put(0, 9998), 99998);
        b.undo();
        Check.due("90000 and 9999", b.put(0, 9999), 99999);
        PainBank c = three("account 0 90001");
        Check.none("90001 and 9999", () -> c.put(0, 9999));
        Check.due("no act", c.count(14), 0);
    }

    private static void putNothingFelt() {
        Check.sentence("pain is PUT by hand into one's ACCOUNT (so much, nothing is felt)", 11);
        PainBank b = three("account 0 5;forged 0 4;vault 5");
        Check.due("put", b.put(0, 9999), 10004);
        Check.due("forged stays", b.person(0, 2), 4);
        Check.due("not too much", b.count(12), 0);
        Check.due("no row", b.count(13), 0);
        Check.due("the vault is a day's", b.count(11), 0);
        Check.due("others", b.count(9), 10004);
    }

    private static void putDeadOrFailed() {
        Check.sentence("IllegalStateException: one is dead, or the bank FAILED.", 11);
        PainBank b = three("dead 1");
        Check.cannot("dead", () -> b.put(1, 1));
        Check.due("alive", b.put(0, 1), 1);
        PainBank f = failed();
        Check.cannot("failed", () -> f.put(0, 1));
        f.refound();
        Check.due("refounded", f.put(0, 1), 51);
    }

    private static void drawNumbers() {
        Check.sentence("IllegalArgumentException: n is none (1 to the ACCOUNT); IllegalStateException", 12);
        PainBank b = three("account 0 50;account 1 99999");
        Check.none("0", () -> b.draw(0, 0));
        Check.none("-1", () -> b.draw(0, -1));
        Check.none("51 of 50", () -> b.draw(0, 51));
        Check.none("the most", () -> b.draw(0, MOST));
        Check.none("the least", () -> b.draw(0, LEAST));
        Check.due("1", b.draw(0, 1), 1);
        Check.none("50 of 49", () -> b.draw(0, 50));
        Check.due("48 of 49", b.draw(0, 48), 48);
        Check.due("1 of 1", b.draw(0, 1), 1);
        Check.none("1 of 0", () -> b.draw(0, 1));
        Check.none("1 of 0", () -> b.draw(2, 1));
        Check.due("99999 of 99999", b.draw(1, 99999), 99999);
        Check.due("account", b.person(1, 1), 0);
        Check.outside("person 3", () -> b.draw(3, 1));
        Check.outside("person -1", () -> b.draw(-1, 1));
        Check.due("it is never too much by hand", b.count(12), 0);
    }

    private static void drawForged() {
        Check.sentence("DRAWN by hand (of it FORGED first, which is not felt)", 12);
        int[][] due = {{4, 0, 1}, {5, 0, 0}, {6, 1, 0}, {50, 45, 0}};
        for (int[] row : due) {
            PainBank b = three("account 0 50;forged 0 5");
            Check.due("felt of " + row[0], b.draw(0, row[0]), row[1]);
            Check.due("forged after " + row[0], b.person(0, 2), row[2]);
            Check.due("account after " + row[0], b.person(0, 1), 50 - row[0]);
        }
        PainBank twice = three("account 0 50;forged 0 5");
        Check.due("3 of 5 forged", twice.draw(0, 3), 0);
        Check.due("2 of them are left", twice.draw(0, 3), 1);
    }

    private static void drawDeadOrFailed() {
        Check.sentence("n is none (1 to the ACCOUNT); IllegalStateException: one is dead, or the bank FAILED.", 12);
        PainBank b = three("account 1 50;dead 1");
        Check.cannot("dead", () -> b.draw(1, 50));
        PainBank f = failed();
        Check.cannot("failed", () -> f.draw(0, 1));
        f.refound();
        Check.due("refounded", f.draw(0, 1), 1);
    }

    private static void chequeNumbers() {
        Check.sentence("IllegalArgumentException: both are one, n is none (1 to the ACCOUNT), or the other one's ACCOUNT would be above 99999", 13);
        PainBank b = three("account 0 50;account 1 5");
        Check.none("0", () -> b.cheque(0, 1, 0));
        Check.none("-1", () -> b.cheque(0, 1, -1));
        Check.none("51 of 50", () -> b.cheque(0, 1, 51));
        Check.none("the most", () -> b.cheque(0, 1, MOST));
        Check.none("the least", () -> b.cheque(0, 1, LEAST));
        Check.due("1", b.cheque(0, 1, 1), 6);
        Check.due("48 of 49", b.cheque(0, 1, 48), 54);
        Check.due("1 of 1", b.cheque(0, 1, 1), 55);
        Check.due("account", b.person(0, 1), 0);
        Check.none("1 of 0", () -> b.cheque(0, 1, 1));
        Check.due("all of 55", b.cheque(1, 2, 55), 55);
        Check.outside("from 3", () -> b.cheque(3, 0, 1));
        Check.outside("to 3", () -> b.cheque(0, 3, 1));
        Check.outside("from -1", () -> b.cheque(-1, 0, 1));
        Check.outside("to -1", () -> b.cheque(0, -1, 1));
    }

    private static void chequeFull() {
        Check.sentence("or the other one's ACCOUNT would be above 99999; IllegalStateException", 13);
        PainBank b = three("account 0 50;account 1 99989");
        Check.none("11 more", () -> b.cheque(0, 1, 11));
        Check.due("9 more", b.cheque(0, 1, 9), 99998);
        Check.none("2 more", () -> b.cheque(0, 1, 2));
        Check.due("1 more", b.cheque(0, 1, 1), 99999);
        Check.none("1 more", () -> b.cheque(0, 1, 1));
        Check.due("account", b.person(0, 1), 40);
        PainBank c = three("account 0 99999;account 1 99999");
        Check.none("so much", () -> c.cheque(0, 1, 99999));
        Check.due("to one who has none", c.cheque(0, 2, 99999), 99999);
    }

    private static void chequeForged() {
        Check.sentence("(FORGED that is above what is left on the ACCOUNT goes with it)", 13);
        int[][] due = {{44, 5, 2}, {45, 5, 2}, {46, 4, 3}, {49, 1, 6}, {50, 0, 7}};
        for (int[] row : due) {
            PainBank b = three("account 0 50;forged 0 5;account 1 10;forged 1 2");
            Check.due("cheque of " + row[0], b.cheque(0, 1, row[0]), 10 + row[0]);
            Check.due("forged of who gave " + row[0], b.person(0, 2), row[1]);
            Check.due("forged of who got " + row[0], b.person(1, 2), row[2]);
            Check.due("left of " + row[0], b.person(0, 1), 50 - row[0]);
        }
    }

    private static void chequeDeadOrFailed() {
        Check.sentence("IllegalStateException: one of both is dead, or the bank FAILED.", 13);
        PainBank b = three("account 0 50;account 1 50;dead 1");
        Check.cannot("the first", () -> b.cheque(1, 0, 1));
        Check.cannot("the other", () -> b.cheque(0, 1, 1));
        Check.due("none of both", b.cheque(0, 2, 1), 1);
        PainBank f = failed();
        Check.cannot("failed", () -> f.cheque(0, 1, 1));
        f.refound();
        Check.due("refounded", f.cheque(0, 1, 1), 51);
    }

    private static void chequeOfOne() {
        Check.sentence("IllegalArgumentException: both are one, n is none (1 to the ACCOUNT)", 13);
        PainBank b = three("account 0 50;account 2 50");
        Check.none("0 to 0", () -> b.cheque(0, 0, 1));
        Check.none("2 to 2", () -> b.cheque(2, 2, 50));
        Check.due("0 to 2", b.cheque(0, 2, 50), 100);
    }

    private static void oweNumbers() {
        Check.sentence("IllegalArgumentException: both are one, or n is none (1 to 999); IllegalStateException: it would be above 9999.", 14);
        PainBank b = three("");
        Check.none("0", () -> b.owe(0, 1, 0));
        Check.none("-1", () -> b.owe(0, 1, -1));
        Check.none("1000", () -> b.owe(0, 1, 1000));
        Check.none("the most", () -> b.owe(0, 1, MOST));
        Check.none("the least", () -> b.owe(0, 1, LEAST));
        Check.due("1", b.owe(0, 1, 1), 1);
        Check.due("2", b.owe(0, 1, 2), 3);
        Check.due("998", b.owe(1, 0, 998), 998);
        Check.due("999", b.owe(0, 1, 999), 1002);
        Check.due("each way of its own", b.owed(1, 0), 998);
        Check.outside("from 3", () -> b.owe(3, 0, 1));
        Check.outside("to 3", () -> b.owe(0, 3, 1));
        Check.outside("from -1", () -> b.owe(-1, 0, 1));
        Check.outside("to -1", () -> b.owe(0, -1, 1));
    }

    private static void oweFull() {
        Check.sentence("a cheque is OWED (so much more, 9999 at most)", 14);
        PainBank b = three("owes 0 1 9000;owes 1 0 9998;owes 2 0 9999");
        Check.due("9000 and 998", b.owe(0, 1, 998), 9998);
        b.undo();
        Check.due("9000 and 999", b.owe(0, 1, 999), 9999);
        Check.cannot("9999 and 1", () -> b.owe(0, 1, 1));
        Check.cannot("9998 and 2", () -> b.owe(1, 0, 2));
        Check.due("9998 and 1", b.owe(1, 0, 1), 9999);
        Check.cannot("9999 and 999", () -> b.owe(2, 0, 999));
        Check.due("owed", b.owed(2, 0), 9999);
        Check.due("another one", b.owe(2, 1, 999), 999);
        // The dead owe, and a bank that failed keeps no one from owing: only what is above is said to be refused.
        b.die(0);
        Check.due("the dead", b.owe(0, 2, 5), 5);
        Check.cannot("to the dead, above 9999", () -> b.owe(1, 0, 1));
        Check.due("failed", failed().owe(0, 1, 5), 5);
    }

    private static void oweOfOne() {
        Check.sentence("IllegalArgumentException: both are one, or n is none (1 to 999)", 14);
        PainBank b = three("");
        for (int p = 0; p < 3; p++) {
            int one = p;
            Check.none("both " + p, () -> b.owe(one, one, 1));
        }
        Check.sentence("OWED by the first one to the other one. IllegalArgumentException: both are one.", 9);
        Check.none("both 0", () -> b.owed(0, 0));
        Check.none("both 2", () -> b.owed(2, 2));
        Check.outside("both 3", () -> b.owed(3, 3));
        Check.outside("3 of 0", () -> b.owed(0, 3));
        Check.outside("0 of 3", () -> b.owed(3, 0));
        Check.outside("-1", () -> b.owed(0, -1));
        b.owe(0, 2, 7);
        Check.due("0 to 2", b.owed(0, 2), 7);
        Check.due("2 to 0", b.owed(2, 0), 0);
    }

    private static void netting() {
        Check.sentence("the PERSON who owes most by NET pays the one who is owed most, of several the least each, the lesser of both, till all are 0", 15);
        // Nets -9, 4, 5: 0 pays 2 first, then 1.
        PainBank b = three("owes 0 1 4;owes 0 2 5");
        Check.due("payments", b.net(), 2);
        Check.due("0 to 1", b.owed(0, 1), 4);
        Check.due("0 to 2", b.owed(0, 2), 5);
        // Nets -4, -5, 9: 1 pays all, then 0.
        PainBank c = three("owes 0 1 4;owes 1 2 9");
        Check.due("payments", c.net(), 2);
        Check.due("1 to 2", c.owed(1, 2), 5);
        Check.due("0 to 2", c.owed(0, 2), 4);
        Check.due("before", c.owed(0, 1), 0);
        Check.due("fewest", c.netted(), 2);
    }

    private static void nettingTies() {
        Check.sentence("of several the least each", 15);
        PainBank b = Check.banked(TextEdges.people(6), "owes 3 0 5;owes 4 1 5;owes 5 2 5");
        Check.due("payments", b.net(), 3);
        Check.due("3 pays 0", b.owed(3, 0), 5);
        Check.due("4 pays 1", b.owed(4, 1), 5);
        Check.due("5 pays 2", b.owed(5, 2), 5);
        PainBank c = Check.banked(TextEdges.people(6), "owes 3 2 5;owes 4 0 5;owes 5 1 5");
        Check.due("payments", c.net(), 3);
        Check.due("3 pays 0 now", c.owed(3, 0), 5);
        Check.due("4 pays 1 now", c.owed(4, 1), 5);
        Check.due("5 pays 2 now", c.owed(5, 2), 5);
        Check.due("and not 2", c.owed(3, 2), 0);
    }

    private static void nettingOfNothing() {
        Check.sentence("OWED is NETTED: how many payments stand then.", 15);
        Check.due("nobody", new PainBank().net(), 0);
        Check.due("nothing owed", three("").net(), 0);
        PainBank ring = three("owes 0 1 5;owes 1 2 5;owes 2 0 5");
        Check.due("a ring", ring.net(), 0);
        Check.due("nothing stands", ring.owed(0, 1) + ring.owed(1, 2) + ring.owed(2, 0), 0);
        PainBank both = three("owes 0 1 5;owes 1 0 4");
        Check.due("the rest of two", both.net(), 1);
        Check.due("0 to 1", both.owed(0, 1), 1);
        Check.due("1 to 0", both.owed(1, 0), 0);
        PainBank even = three("owes 0 1 5;owes 1 0 5");
        Check.due("two that are even", even.net(), 0);
        Check.due("0 to 1", even.owed(0, 1), 0);
    }

    private static void nettingAll() {
        Check.sentence("these stand in place of all OWED before", 15);
        // Nets of eight: one is owed by all the others, who owe the most that can be.
        StringBuilder text = new StringBuilder("rate 2");
        for (int p = 1; p < 8; p++) {
            text.append(";owes ").append(p).append(" 0 9999");
        }
        PainBank b = Check.banked(TextEdges.people(8), text.toString());
        Check.due("net", b.person(0, 6), 69993);
        Check.due("net", b.person(7, 6), -9999);
        Check.due("payments", b.net(), 7);
        for (int p = 1; p < 8; p++) {
            Check.due(p + " to 0", b.owed(p, 0), 9999);
        }
        Check.due("nets stay", b.person(0, 6), 69993);
    }

    private static void dying() {
        Check.sentence("the ACCOUNT, FORGED, go to the HEIR who is ALIVE (else they are gone)", 16);
        PainBank b = three("account 0 50;forged 0 5;account 1 7;forged 1 2;heir 0 1;heir 1 2");
        Check.due("who has it", b.die(0), 1);
        Check.due("account", b.person(1, 1), 57);
        Check.due("forged", b.person(1, 2), 7);
        Check.due("nothing is left", b.person(0, 1) + b.person(0, 2), 0);
        Check.due("dead", b.person(0, 3), 0);
        Check.due("the heir's heir has none of it", b.person(2, 1), 0);
        Check.due("of nothing there is an heir, too", three("heir 0 1").die(0), 1);
        PainBank later = three("account 0 50;forged 0 5;heir 0 1");
        later.put(1, 10);
        later.draw(0, 2);
        Check.due("as all is by then", later.die(0), 1);
        Check.due("account", later.person(1, 1), 58);
        Check.due("forged", later.person(1, 2), 3);
    }

    private static void dyingWithoutHeir() {
        Check.sentence("One dies: who has the ACCOUNT then; NONE.", 16);
        PainBank none = three("account 0 50;forged 0 5");
        Check.due("no heir", none.die(0), -1);
        Check.due("gone", none.count(9), 0);
        Check.due("gone", none.count(10), 0);
        PainBank dead = three("account 0 50;forged 0 5;account 1 7;heir 0 1;heir 1 2;dead 1");
        Check.due("the heir is dead", dead.die(0), -1);
        Check.due("gone, and not the dead one's", dead.count(9), 7);
        Check.due("the heir's heir has nothing", dead.person(2, 1), 0);
        PainBank round = three("account 0 50;account 1 7;heir 0 1;heir 1 0");
        Check.due("to 1", round.die(0), 1);
        Check.due("whose heir is dead", round.die(1), -1);
        Check.due("gone", round.count(9), 0);
    }

    private static void dyingFull() {
        Check.sentence("an ACCOUNT 0 to 99999", 16);
        int[][] due = {{49999, 99998}, {50000, 99999}, {50001, 99999}, {99999, 99999}};
        for (int[] row : due) {
            PainBank b = three("account 0 49999;account 1 " + row[0] + ";heir 0 1");
            Check.due("to 1", b.die(0), 1);
            Check.due("49999 and " + row[0], b.person(1, 1), row[1]);
        }
        PainBank b = three("account 0 99999;forged 0 99999;account 1 99999;forged 1 5;heir 0 1");
        b.die(0);
        Check.due("no more is forged than there is", b.person(1, 2), 99999);
    }

    private static void dyingTwice() {
        Check.sentence("One dies: who has the ACCOUNT then; NONE. IllegalStateException: one is dead.", 16);
        PainBank b = three("dead 1");
        b.die(0);
        Check.cannot("again", () -> b.die(0));
        Check.cannot("told to be dead", () -> b.die(1));
        Check.outside("3", () -> b.die(3));
        Check.outside("-1", () -> b.die(-1));
        Check.due("the last one", b.die(2), -1);
        Check.due("nobody", b.count(1), 0);
        Check.due("people", b.count(0), 3);
        PainBank f = failed();
        Check.due("one may die when it failed", f.die(0), -1);
    }

    private static void hearing() {
        Check.sentence("HEARS is told, as bits (not oneself; PEOPLE that there are): what it was.", 17);
        PainBank b = three("hears 0 1");
        Check.due("was", b.hear(0, 7), 2);
        Check.due("not oneself", b.person(0, 5), 6);
        Check.due("was", b.hear(0, 8), 6);
        Check.due("of none they count for nothing", b.person(0, 5), 0);
        Check.due("was", b.hear(0, -1), 0);
        Check.due("all others", b.person(0, 5), 6);
        Check.due("was", b.hear(0, 1), 6);
        Check.due("oneself alone", b.person(0, 5), 0);
        Check.due("was", b.hear(2, LEAST + 3), 0);
        Check.due("two", b.person(2, 5), 3);
        Check.due("was", b.hear(2, 0), 3);
        Check.due("nobody", b.person(2, 5), 0);
        Check.due("in place, not added", b.hear(2, 1) + b.hear(2, 2), 1);
        Check.due("in place, not added", b.person(2, 5), 2);
        Check.outside("3", () -> b.hear(3, 0));
        Check.outside("-1", () -> b.hear(-1, 0));
        b.die(1);
        b.hear(0, 2);
        Check.due("the dead are people that there are", b.person(0, 5), 2);
        Check.sentence("Sets are bits; of none they count for nothing.", 17);
        PainBank eight = Check.banked(TextEdges.people(8));
        eight.hear(7, MOST);
        Check.due("7 hears all others", eight.person(7, 5), 127);
        eight.hear(0, 256 + 2);
        Check.due("there is no 8th bit", eight.person(0, 5), 2);
    }

    private static void refounding() {
        Check.sentence("Refounded: whether it had FAILED.", 18);
        PainBank b = failed();
        Check.due("it had", b.refound(), true);
        Check.due("not any more", b.count(11), 0);
        Check.due("it had not", b.refound(), false);
        Check.due("still not", b.count(11), 0);
        Check.due("a new one had not", new PainBank().refound(), false);
        b.undo();
        b.undo();
        Check.due("undone", b.count(11), 1);
        // Refounded, it can fail again.
        Check.tell(b, "vault 99");
        b.refound();
        b.days(1);
        Check.due("again", b.count(11), 1);
    }

    private static void days() {
        Check.sentence("So many DAYS more (1 to 60): how often it was TOO MUCH for somebody. IllegalArgumentException: they are none.", 19);
        PainBank b = three("");
        Check.none("0", () -> b.days(0));
        Check.none("-1", () -> b.days(-1));
        Check.none("61", () -> b.days(61));
        Check.none("the most", () -> b.days(MOST));
        Check.none("the least", () -> b.days(LEAST));
        Check.due("day", b.count(4), 0);
        b.days(1);
        Check.due("day", b.count(4), 1);
        b.days(2);
        Check.due("day", b.count(4), 3);
        b.days(59);
        Check.due("day", b.count(4), 62);
        b.days(60);
        Check.due("day", b.count(4), 122);
        PainBank hard = Check.banked("person bears 1 pain 2222222;person bears 1 pain 2222222");
        Check.rule(hard, "");
        Check.due("of each on each day", hard.days(60), 120);
        Check.due("in all", hard.count(12), 120);
        Check.due("in all", hard.days(1) + hard.count(12), 124);
    }
}
