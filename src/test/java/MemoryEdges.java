/** The edges of the log, the seed, what is undone, the image and counts, a sentence of the document each. */
final class MemoryEdges {
    private static final int MOST = Integer.MAX_VALUE;
    private static final int LEAST = Integer.MIN_VALUE;

    private MemoryEdges() {
    }

    static void run() {
        led();
        logWhats();
        logAgo();
        seed();
        twelveActs();
        eachAct();
        daysAreOne();
        asAheadOfIt();
        butForTheTape();
        noneAreRemembered();
        askingIsNoAct();
        imageOne();
        imageOfAll();
        backWithout();
        backButForTheTape();
        counts();
        countsFull();
        fiveHundredTwelve();
    }

    private static PainBank three(String rest) {
        return Check.banked(TextEdges.people(3), rest);
    }

    private static void led() {
        Check.sentence("LED: how many rows of THE LOG are a PERSON's; the most that one FELT by them (0 without).", 44);
        PainBank b = Check.banked("person bears 1 pain 2030000;person bears 1 pain 2222222;person bears 9 pain 9999999");
        Check.rightLaw(b, "", 0);
        Check.due("without", b.led(0, false), 0);
        Check.due("without", b.led(0, true), 0);
        b.days(1);
        Check.due("one", b.led(0, false), 1);
        Check.due("most", b.led(0, true), 2);
        b.days(2);
        Check.due("two", b.led(0, false), 2);
        Check.due("most", b.led(0, true), 3);
        Check.due("three", b.led(1, false), 3);
        Check.due("most", b.led(1, true), 2);
        Check.due("never", b.led(2, false), 0);
        Check.due("never", b.led(2, true), 0);
        Check.outside("3", () -> b.led(3, false));
        Check.outside("-1", () -> b.led(-1, true));
        b.die(0);
        Check.due("the dead one's rows stay", b.led(0, false), 2);
        // Rows that are not of the latest 60 are no more in it.
        b.days(57);
        Check.due("of 62 rows 60 stay", b.led(0, false), 1);
        Check.due("of 62 rows 60 stay", b.led(1, false), 59);
        b.days(1);
        Check.due("the last of it", b.led(0, false), 1);
        Check.due("the last of it", b.led(0, true), 3);
        b.days(2);
        Check.due("gone", b.led(0, false), 0);
        Check.due("gone", b.led(0, true), 0);
    }

    private static void logWhats() {
        Check.sentence("NONE without. NoSuchElementException: another what.", 45);
        PainBank b = Check.banked("person bears 1 pain 2222222");
        Check.rightLaw(b, "", 0);
        Check.noSuch("-1 without a row", () -> b.log(0, -1));
        Check.noSuch("4 without a row", () -> b.log(0, 4));
        for (int what = 0; what < 4; what++) {
            Check.due("without", b.log(0, what), -1);
        }
        b.days(1);
        int[] due = {0, 0, 2, 1};
        for (int what = 0; what < 4; what++) {
            Check.due("log(0, " + what + ")", b.log(0, what), due[what]);
            Check.due("log(1, " + what + ")", b.log(1, what), -1);
        }
        Check.noSuch("-1", () -> b.log(0, -1));
        Check.noSuch("4", () -> b.log(0, 4));
        Check.noSuch("the most", () -> b.log(0, MOST));
        Check.noSuch("the least", () -> b.log(0, LEAST));
    }

    private static void logAgo() {
        Check.sentence("THE LOG so many ago (0 the latest)", 45);
        PainBank b = Check.banked("person bears 1 pain 2345678");
        Check.rightLaw(b, "", 0);
        b.days(3);
        int[] felt = {4, 3, 2};
        for (int ago = 0; ago < 3; ago++) {
            Check.due("felt " + ago + " ago", b.log(ago, 2), felt[ago]);
        }
        Check.due("-1", b.log(-1, 2), -1);
        Check.due("3", b.log(3, 2), -1);
        Check.due("the most", b.log(MOST, 2), -1);
        Check.due("the least", b.log(LEAST, 2), -1);
    }

    private static void seed() {
        Check.sentence("SEED: what it was.", 46);
        PainBank b = new PainBank();
        Check.due("1 at first", b.seed(0), 1);
        Check.due("0", b.seed(MOST), 0);
        Check.due("the most", b.seed(LEAST), MOST);
        Check.due("the least", b.seed(-1), LEAST);
        Check.due("-1", b.seed(1), -1);
        Check.due("no act", b.count(14), 0);
    }

    private static void twelveActs() {
        Check.sentence("UNDONE: the latest ACT not undone yet (12 are remembered", 47, 50);
        PainBank b = three("");
        Check.due("none", b.undo(), false);
        for (int i = 1; i <= 11; i++) {
            b.put(0, 1);
        }
        Check.due("11", b.count(14), 11);
        b.put(0, 1);
        Check.due("12", b.count(14), 12);
        b.put(0, 1);
        Check.due("12", b.count(14), 12);
        for (int i = 12; i >= 1; i--) {
            Check.due("undo", b.undo(), true);
            Check.due("account", b.person(0, 1), i);
            Check.due("left", b.count(14), i - 1);
        }
        Check.due("the 13th ago is not remembered", b.undo(), false);
        Check.due("and nothing happens", b.person(0, 1), 1);
        b.put(0, 5);
        b.put(0, 7);
        b.undo();
        b.put(0, 9);
        Check.due("the latest not undone yet", b.undo(), true);
        Check.due("account", b.person(0, 1), 6);
        Check.due("and the one before", b.undo(), true);
        Check.due("account", b.person(0, 1), 1);
        Check.due("none", b.undo(), false);
    }

    private static void eachAct() {
        Check.sentence("ACTS: pain is PUT by hand", 47, 11, 12, 13, 14, 15, 16, 17, 18, 19);
        PainBank b = three("account 0 50;forged 0 5;heir 1 2");
        b.put(0, 1);
        b.draw(0, 2);
        b.cheque(0, 1, 48);
        b.owe(0, 1, 5);
        b.net();
        b.die(1);
        b.hear(0, 2);
        b.refound();
        b.days(1);
        Check.due("nine acts", b.count(14), 9);
        b.undo();
        Check.due("days", b.count(4), 0);
        b.undo();
        Check.due("refounded", b.count(14), 7);
        b.undo();
        Check.due("hears", b.person(0, 5), 0);
        Check.due("ahead of it one had died", b.person(2, 1), 48);
        b.undo();
        Check.due("died", b.person(1, 3), 1);
        Check.due("the account is back", b.person(1, 1), 48);
        Check.due("forged is back", b.person(1, 2), 2);
        b.undo();
        b.undo();
        Check.due("owed", b.owed(0, 1), 0);
        b.undo();
        Check.due("cheque", b.person(0, 1), 49);
        Check.due("forged", b.person(0, 2), 3);
        b.undo();
        Check.due("drawn", b.person(0, 1), 51);
        Check.due("forged", b.person(0, 2), 5);
        b.undo();
        Check.due("put", b.person(0, 1), 50);
        Check.due("none", b.undo(), false);
    }

    private static void daysAreOne() {
        Check.sentence("DAYS of one call are one", 47);
        PainBank b = three("account 0 50;rate 0");
        Check.rightLaw(b, "draw 1", 1);
        b.days(2);
        b.days(30);
        Check.due("two acts", b.count(14), 2);
        b.undo();
        Check.due("day", b.count(4), 2);
        Check.due("account", b.person(0, 1), 48);
        b.undo();
        Check.due("day", b.count(4), 0);
        Check.due("account", b.person(0, 1), 50);
        Check.due("none", b.undo(), false);
    }

    private static void asAheadOfIt() {
        Check.sentence("all is as ahead of it", 47);
        PainBank b = Check.banked("person bears 1 pain 2222222;person bears 1 pain 0000000;account 1 50;forged 1 5;vault 40;rain 50;fall 50");
        Check.rightLaw(b, "", 0);
        b.days(1);
        Check.due("failed", b.count(11), 1);
        Check.due("rows", b.count(13) > 0, true);
        b.seed(99);
        b.undo();
        int[] due = {2, 3, 1, 0, 0, 40, 2, 50, 50, 50, 5, 0, 0, 0, 0};
        for (int what = 0; what < due.length; what++) {
            Check.due("count(" + what + ")", b.count(what), due[what]);
        }
        Check.due("no row", b.log(0, 0), -1);
        Check.due("the seed, too", b.seed(1), 1);
        // Rows that had made room for later ones come back.
        PainBank log = Check.banked("person bears 1 pain 2222222");
        Check.rightLaw(log, "", 0);
        log.days(60);
        log.days(30);
        Check.due("the oldest", log.log(59, 0), 30);
        log.undo();
        for (int ago = 0; ago < 60; ago++) {
            Check.due("the day of " + ago + " ago", log.log(ago, 0), 59 - ago);
        }
        Check.due("in all", log.count(12), 60);
    }

    private static void butForTheTape() {
        Check.sentence("(but for the TAPE, fault(), THE IMAGE)", 47);
        PainBank b = three("");
        b.put(0, 7);
        Check.wrongBank(b, "rate", 4);
        b.image();
        b.put(0, 1);
        Check.feed(b, "rate 5");
        b.undo();
        Check.due("fault", b.fault(), 4);
        Check.due("the tape", b.end(7), false);
        Check.due("the tape", b.end(6), true);
        b.undo();
        Check.due("account", b.person(0, 1), 0);
        Check.due("the image is still there", b.back(), true);
        Check.due("as it was kept", b.person(0, 1), 7);
        Check.due("the tape", b.bank(), 3);
        Check.due("rate", b.count(6), 5);
    }

    private static void noneAreRemembered() {
        Check.sentence("A text, going back: none are remembered.", 47, 4, 5, 49);
        PainBank b = three("");
        b.put(0, 1);
        Check.wrongBank(b, "rate", 4);
        Check.wrongLaw(b, "put", 3);
        Check.due("a wrong text is none", b.count(14), 1);
        Check.rightBank(b, "");
        Check.due("a text without a line", b.count(14), 0);
        Check.due("none", b.undo(), false);
        Check.due("account", b.person(0, 1), 1);
        b.put(0, 1);
        Check.rightLaw(b, "", 0);
        Check.due("a law without a line", b.count(14), 0);
        Check.due("none", b.undo(), false);
        b.put(0, 1);
        Check.due("there is no image", b.back(), false);
        Check.due("so it is remembered", b.count(14), 1);
        b.image();
        Check.due("an image forgets nothing", b.count(14), 1);
        b.back();
        Check.due("going back does", b.count(14), 0);
        Check.due("none", b.undo(), false);
        Check.due("account", b.person(0, 1), 3);
        for (int i = b.count(2); i < 12; i++) {
            Check.rightBank(b, "");
        }
        b.put(0, 1);
        Check.throwing("a 13th text", UnsupportedOperationException.class, b::bank);
        Check.due("a refused text is none", b.count(14), 1);
    }

    private static void askingIsNoAct() {
        Check.sentence("acts that can be UNDONE", 50, 47);
        PainBank b = three("account 0 50");
        b.put(0, 1);
        b.person(0, 0);
        b.today(0, 0);
        b.ahead(0, 60);
        b.fails(60);
        b.first(true);
        b.plan(0, 1, 0);
        b.cost(0, 60);
        b.netted();
        b.run(0, true);
        b.needed(60);
        b.trial(40, true);
        b.span(40, true);
        b.seed(5);
        b.image();
        b.feed(0, 0, 0, 0, 0);
        b.end(0);
        Check.due("one", b.count(14), 1);
        Check.none("refused", () -> b.put(0, 0));
        Check.cannot("refused", () -> {
            b.die(1);
            return b.die(1);
        });
        Check.due("two", b.count(14), 2);
    }

    private static void imageOne() {
        Check.sentence("THE IMAGE (one) of all may be kept, and gone back to", 48, 49);
        PainBank b = three("");
        b.put(0, 1);
        b.image();
        b.put(0, 1);
        b.image();
        b.put(0, 1);
        Check.due("back", b.back(), true);
        Check.due("the later one", b.person(0, 1), 2);
        Check.due("back again", b.back(), true);
        Check.due("it stays kept", b.person(0, 1), 2);
        b.put(0, 5);
        b.put(1, 5);
        Check.due("what comes later is not in it", b.back(), true);
        Check.due("0", b.person(0, 1), 2);
        Check.due("1", b.person(1, 1), 0);
        PainBank empty = new PainBank();
        empty.image();
        Check.tell(empty, TextEdges.people(8));
        Check.due("to nobody", empty.back(), true);
        Check.due("people", empty.count(0), 0);
        Check.outside("0", () -> empty.person(0, 0));
        Check.tell(empty, "person bears 3 pain 0000000");
        Check.due("anew", empty.person(0, 0), 3);
    }

    private static void imageOfAll() {
        Check.sentence("THE IMAGE is kept.", 48);
        PainBank b = Check.banked("person bears 1 pain 2222222;person bears 9 pain 0000000;account 1 50;forged 1 5;heir 0 1;hears 0 1;owes 0 1 5");
        Check.rightLaw(b, "put 1", 1);
        b.days(3);
        Check.rightLaw(b, "put 1 if day > 3", 1);
        b.days(1);
        b.seed(42);
        b.image();
        b.days(60);
        b.die(1);
        b.net();
        b.hear(0, 0);
        Check.rightLaw(b, "draw 1;draw 1", 2);
        Check.rightBank(b, "person bears 1 pain 0000000;vault 1;rate 1;rain 1;fall 1;heir 1 0;account 2 9;owes 1 0 9");
        b.days(1);
        b.back();
        int[] due = {2, 3, 1, 1, 4, 999, 2, 0, 0, 53, 5, 0, 1, 1, 0};
        for (int what = 0; what < due.length; what++) {
            Check.due("count(" + what + ")", b.count(what), due[what]);
        }
        Check.due("the row of day 3", b.log(0, 0), 3);
        Check.due("no other row", b.log(1, 0), -1);
        Check.due("heir", b.person(0, 4), 1);
        Check.due("heir", b.person(1, 4), -1);
        Check.due("hears", b.person(0, 5), 2);
        Check.due("owed", b.owed(0, 1), 5);
        Check.due("owed", b.owed(1, 0), 0);
        Check.due("the law", b.today(0, 0), 1);
        Check.due("seed", b.seed(1), 42);
        Check.tell(b, "person bears 1 pain 0000000");
        Check.due("a new one has nothing", b.person(2, 1), 0);
    }

    private static void backWithout() {
        Check.sentence("One goes back to THE IMAGE: true; false, and nothing happens, if none was kept.", 49);
        PainBank b = three("");
        b.put(0, 7);
        Check.due("none", b.back(), false);
        Check.due("account", b.person(0, 1), 7);
        Check.due("acts", b.count(14), 1);
        b.image();
        Check.due("one", b.back(), true);
        Check.due("new", new PainBank().back(), false);
    }

    private static void backButForTheTape() {
        Check.sentence("(but for the TAPE, fault() and THE IMAGE itself)", 49);
        PainBank b = three("");
        Check.wrongBank(b, "rate", 4);
        Check.feed(b, "rate 9");
        b.image();
        Check.wrongBank(b, "vault", 5);
        Check.feed(b, "rate 5");
        b.back();
        Check.due("fault", b.fault(), 5);
        Check.due("the tape", b.end(7), false);
        Check.due("the tape", b.bank(), 3);
        Check.due("rate", b.count(6), 5);
        b.back();
        Check.due("the image", b.back(), true);
        Check.due("no tape comes back", b.end(1), false);
        Check.due("rate", b.count(6), 2);
        Check.due("texts", b.count(2), 2);
    }

    private static void counts() {
        Check.sentence("NONE for another what.", 50);
        PainBank b = three("");
        Check.due("-1", b.count(-1), -1);
        Check.due("0", b.count(0), 3);
        Check.due("14", b.count(14), 0);
        Check.due("15", b.count(15), -1);
        Check.due("the most", b.count(MOST), -1);
        Check.due("the least", b.count(LEAST), -1);
        Check.sentence("3 LINES of THE LAW (NONE without one)", 50);
        Check.due("without", b.count(3), -1);
        Check.rightLaw(b, "", 0);
        Check.due("of none", b.count(3), 0);
        Check.rightLaw(b, "put 1", 1);
        Check.due("of one", b.count(3), 1);
        Check.sentence("11 1 if the bank FAILED", 50);
        Check.due("not", b.count(11), 0);
        Check.due("failed", ActEdges.failed().count(11), 1);
    }

    private static void countsFull() {
        Check.sentence("9 ACCOUNTS together, 10 FORGED together", 50);
        Check.due("nobody", new PainBank().count(9) + new PainBank().count(10), 0);
        StringBuilder accounts = new StringBuilder("rate 2");
        StringBuilder forged = new StringBuilder("rate 2");
        for (int p = 0; p < 8; p++) {
            accounts.append(";account ").append(p).append(" 99999");
            forged.append(";forged ").append(p).append(" 99999");
        }
        PainBank b = Check.banked(TextEdges.people(8), accounts.toString(), forged.toString());
        Check.due("all full", b.count(9), 799992);
        Check.due("all forged", b.count(10), 799992);
        Check.rightBank(b, "dead 7");
        Check.due("the dead one's, too", b.count(9), 799992);
        b.die(0);
        Check.due("one less", b.count(9), 699993);
        Check.sentence("1 those ALIVE, as bits", 50);
        Check.due("1 to 6", b.count(1), 126);
        Check.due("people", b.count(0), 8);
        for (int p = 1; p < 7; p++) {
            b.die(p);
        }
        Check.due("nobody", b.count(1), 0);
    }

    private static void fiveHundredTwelve() {
        Check.sentence("An object is used for at most 512 calls after it has been made", 19, 47);
        PainBank b = new PainBank();
        int calls = 0;
        for (int i = 0; i < 255; i++) {
            Check.due("days", b.days(60), 0);
            Check.due("day", b.count(4), Math.min(9999, 60 * (i + 1)));
            calls += 2;
        }
        Check.due("undo", b.undo(), true);
        Check.due("the last call", b.count(14), 11);
        Check.due("calls", calls + 2, 512);
    }
}
