/** The edges of the tape, of texts of the bank and of their first wrong byte, a sentence of the document each. */
final class TextEdges {
    private static final String ONE = "person bears 9 pain 0000000";
    private static final String TWO = ONE + ";" + ONE;
    private static final int INT = Integer.MAX_VALUE;

    private TextEdges() {
    }

    static void run() {
        newObject();
        feedOrder();
        feedFull();
        endOfTape();
        textsAreUsedUp();
        twelveTexts();
        oneBehindAnother();
        fourteenLines();
        eightPeople();
        numberedFromNought();
        bears();
        pains();
        sevenFigures();
        accounts();
        aliveOrDead();
        heirs();
        hears();
        forged();
        accountEndsForged();
        vault();
        rate();
        rainAndFall();
        owed();
        byThen();
        notTheFirstOne();
        fiveDigits();
        words();
        wordsThatAreNone();
        blanks();
        noLine();
        wrongBytes();
        moreMustCome();
        nothingStays();
        faultOfTheLatest();
    }

    /** So many people without pain, as a text. */
    static String people(int n) {
        StringBuilder text = new StringBuilder();
        for (int i = 0; i < n; i++) {
            text.append(i > 0 ? ";" : "").append(ONE);
        }
        return text.toString();
    }

    private static PainBank two() {
        return Check.banked(TWO);
    }

    private static void newObject() {
        Check.sentence("`PainBank()`: Nobody.", 1);
        PainBank b = new PainBank();
        Check.due("people", b.count(0), 0);
        Check.due("alive", b.count(1), 0);
        Check.outside("person 0", () -> b.person(0, 0));
        Check.outside("put by nobody", () -> b.put(0, 1));
        Check.due("rows", b.count(13), 0);
        Check.due("too much", b.count(12), 0);
        Check.due("failed", b.count(11), 0);
        Check.sentence("DAY: 0 at first", 1, 50);
        Check.due("day", b.count(4), 0);
        Check.due("a day of nobody", b.days(1), 0);
        Check.due("and its day", b.count(4), 1);
    }

    private static void feedOrder() {
        Check.sentence("Twenty bytes come behind the TAPE, of each number the highest first: how many it has", 2);
        PainBank b = new PainBank();
        // "rate 12;rain 34;fall" and " 56;vault 78        "
        Check.due("the first", b.feed(0x72617465, 0x2031323b, 0x7261696e, 0x2033343b, 0x66616c6c), 20);
        Check.due("the second", b.feed(0x2035363b, 0x7661756c, 0x74203738, 0x20202020, 0x20202020), 40);
        Check.due("bank", b.bank(), 1);
        Check.due("rate", b.count(6), 12);
        Check.due("rain", b.count(7), 34);
        Check.due("fall", b.count(8), 56);
        Check.due("vault", b.count(5), 78);
        // Bytes from 128 on are no blanks and no signs: each place of the four shows as a first wrong byte.
        int[] numbers = {0xa0202020, 0x20a02020, 0x2020a020, 0x202020a0};
        for (int at = 0; at < 4; at++) {
            b.feed(0x20202020, numbers[at], 0x20202020, 0x20202020, 0x20202020);
            Check.none("a byte of 160 at " + at, b::bank);
            Check.due("its place", b.fault(), 4 + at);
        }
    }

    private static void feedFull() {
        Check.sentence("NONE, and none come, if it would have more than 400.", 2);
        PainBank b = new PainBank();
        for (int i = 1; i <= 20; i++) {
            Check.due("feed " + i, b.feed(0x20202020, 0x20202020, 0x20202020, 0x20202020, 0x20202020), 20 * i);
        }
        Check.due("420", b.feed(0, 0, 0, 0, 0), -1);
        Check.due("399 stay", b.end(399), true);
        Check.due("419", b.feed(0, 0, 0, 0, 0), -1);
        Check.due("none came", b.end(400), false);
        Check.due("381 stay", b.end(381), true);
        Check.due("401", b.feed(0, 0, 0, 0, 0), -1);
        Check.due("none came", b.end(382), false);
        Check.due("380 stay", b.end(380), true);
        Check.due("400", b.feed(0x20202020, 0x20202020, 0x20202020, 0x20202020, 0x20202020), 400);
        Check.due("379 stay", b.end(379), true);
        Check.due("399", b.feed(0x20202020, 0x20202020, 0x20202020, 0x20202020, 0x20202020), 399);
        Check.due("of which none were refused ones", b.bank(), 1);
        Check.due("used up, so that there is room", b.feed(0, 0, 0, 0, 0), 20);
    }

    private static void endOfTape() {
        Check.sentence("The TAPE has its first n bytes alone: true; false, and nothing happens, if it has fewer, or n is below 0.", 3);
        PainBank b = new PainBank();
        Check.due("none of none", b.end(0), true);
        Check.due("one of none", b.end(1), false);
        b.feed(0x72617465, 0x20313920, 0x20202020, 0x20202020, 0x20202020);
        Check.due("21 of 20", b.end(21), false);
        Check.due("so many", b.end(INT), false);
        Check.due("-1", b.end(-1), false);
        Check.due("the least number", b.end(Integer.MIN_VALUE), false);
        Check.due("20 of 20", b.end(20), true);
        Check.due("7 of 20", b.end(7), true);
        Check.due("8 of 7", b.end(8), false);
        Check.due("6 of 7", b.end(6), true);
        Check.due("'rate 1'", b.bank(), 1);
        Check.due("the first alone", b.count(6), 1);
        b.feed(0x72617465, 0x20313920, 0x20202020, 0x20202020, 0x20202020);
        Check.due("none of 20", b.end(0), true);
        Check.due("1 of none", b.end(1), false);
        Check.due("an empty text", b.bank(), 2);
        Check.due("rate", b.count(6), 1);
    }

    private static void textsAreUsedUp() {
        Check.sentence("Uses the TAPE up: a text of THE BANK: how many there are.", 4);
        PainBank b = new PainBank();
        Check.feed(b, "rate 3");
        Check.due("bank", b.bank(), 1);
        Check.due("used up", b.end(1), false);
        Check.due("so that the next is empty", b.bank(), 2);
        Check.sentence("IllegalArgumentException: it is wrong; UnsupportedOperationException: there are 12.", 4);
        Check.feed(b, "rate 21");
        Check.none("a wrong one", b::bank);
        Check.due("used up, too", b.end(1), false);
        Check.due("texts", b.count(2), 2);
        Check.sentence("Uses the TAPE up: THE LAW: how many LINES. IllegalArgumentException: the text is wrong.", 5);
        Check.feed(b, "put 1;draw 2");
        Check.due("law", b.law(), 2);
        Check.due("used up", b.end(1), false);
        Check.feed(b, "put 1;draw 100");
        Check.none("a wrong one", b::law);
        Check.due("used up, too", b.end(1), false);
        Check.due("lines", b.count(3), 2);
        Check.due("so that the next is empty", b.law(), 0);
        Check.due("lines", b.count(3), 0);
    }

    private static void twelveTexts() {
        Check.sentence("THE BANK is told in texts (at most 12, one behind another)", 4, 50);
        PainBank b = new PainBank();
        for (int i = 1; i <= 12; i++) {
            Check.rightBank(b, i == 5 ? "" : "rate " + i);
            Check.due("texts", b.count(2), i);
        }
        Check.feed(b, "rate 13");
        Check.throwing("the 13th", UnsupportedOperationException.class, b::bank);
        Check.due("used up", b.end(1), false);
        Check.throwing("an empty one", UnsupportedOperationException.class, b::bank);
        Check.due("texts", b.count(2), 12);
        Check.due("rate", b.count(6), 12);
        Check.wrongBank(b, "rate 21", 5);
        Check.throwing("again", UnsupportedOperationException.class, b::bank);
        Check.due("that one was right", b.fault(), -1);
        Check.rightLaw(b, "put 1", 1);
        PainBank wrong = new PainBank();
        for (int i = 0; i < 13; i++) {
            Check.wrongBank(wrong, "rate", 4);
        }
        Check.rightBank(wrong, "rate 1");
        Check.due("wrong ones do not count", wrong.count(2), 1);
    }

    private static void oneBehindAnother() {
        Check.sentence("one behind another", 4);
        PainBank b = Check.banked(ONE + ";rate 3", ONE + ";rain 4");
        Check.due("people of both", b.count(0), 2);
        Check.due("of the first", b.count(6), 3);
        Check.due("of the second", b.count(7), 4);
    }

    private static String rates(int n) {
        return "rate 1;".repeat(n - 1) + "rate 5";
    }

    private static void fourteenLines() {
        Check.sentence("LINE { ; LINE }, at most 14", 4);
        PainBank b = new PainBank();
        Check.rightBank(b, rates(1));
        Check.rightBank(b, rates(13));
        Check.rightBank(b, rates(14));
        Check.due("the last line counts", b.count(6), 5);
        Check.wrongBank(b, rates(15), 98);
        Check.wrongBank(b, rates(14) + " ;  rate 5", 101);
        Check.wrongBank(b, rates(14) + ";ache", 98);
        Check.wrongBank(b, rates(14) + ";", 98);
        Check.wrongBank(b, rates(14) + "; ", 99);
        Check.wrongBank(b, rates(13) + ";rate 21;rate 1", 96);
        Check.wrongBank(b, rates(20), 98);
    }

    private static void eightPeople() {
        Check.sentence("PEOPLE (at most 8, numbered from 0 on)", 4, 7, 50);
        PainBank b = new PainBank();
        Check.rightBank(b, people(7));
        Check.due("7", b.count(0), 7);
        Check.rightBank(b, ONE);
        Check.due("8", b.count(0), 8);
        Check.due("alive", b.count(1), 255);
        Check.wrongBank(b, ONE, 0);
        Check.wrongBank(b, "rate 5; " + ONE, 8);
        Check.wrongBank(b, "person", 0);
        Check.due("8", b.count(0), 8);
        Check.due("rate", b.count(6), 2);
        PainBank all = new PainBank();
        Check.rightBank(all, people(8));
        Check.wrongBank(new PainBank(), people(9), 8 * 28);
        // The dead are people, too.
        Check.rightBank(all, "dead 0;dead 7");
        Check.wrongBank(all, ONE, 0);
    }

    private static void numberedFromNought() {
        Check.sentence("numbered from 0 on", 7, 4);
        PainBank b = Check.banked("person bears 1 pain 0000000;person bears 2 pain 0000000;person bears 3 pain 0000000");
        for (int p = 0; p < 3; p++) {
            Check.due("bears of " + p, b.person(p, 0), p + 1);
        }
        Check.outside("3", () -> b.person(3, 0));
        Check.outside("-1", () -> b.person(-1, 0));
        Check.rightBank(b, "account 2 5");
        Check.wrongBank(b, "account 3 5", 8);
        PainBank full = Check.banked(people(8));
        Check.rightBank(full, "account 7 5;heir 7 6;hears 6 7;owes 7 0 1;forged 7 5;dead 7");
        Check.wrongBank(full, "account 8 5", 8);
        Check.wrongBank(full, "heir 8 7", 5);
        Check.wrongBank(full, "heir 7 8", 7);
        Check.wrongBank(full, "hears 8 7", 6);
        Check.wrongBank(full, "hears 7 8", 8);
        Check.wrongBank(full, "owes 8 7 1", 5);
        Check.wrongBank(full, "owes 7 8 1", 7);
        Check.wrongBank(full, "forged 8 0", 7);
        Check.wrongBank(full, "dead 8", 5);
    }

    private static void bears() {
        Check.sentence("BEARS 1 to 99 (what one can feel on a DAY)", 4, 7);
        PainBank b = new PainBank();
        Check.wrongBank(b, "person bears 0 pain 0000000", 13);
        Check.rightBank(b, "person bears 1 pain 0000000");
        Check.rightBank(b, "person bears 2 pain 0000000");
        Check.rightBank(b, "person bears 98 pain 0000000");
        Check.rightBank(b, "person bears 99 pain 0000000");
        Check.wrongBank(b, "person bears 100 pain 0000000", 13);
        int[] due = {1, 2, 98, 99};
        for (int p = 0; p < 4; p++) {
            Check.due("bears of " + p, b.person(p, 0), due[p]);
        }
    }

    private static void pains() {
        Check.sentence("PAIN of each WEEKDAY (0 to 6), 0 to 9", 8, 4);
        PainBank b = Check.banked("person bears 9 pain 9012340;person bears 9 pain 0000009");
        int[] due = {9, 0, 1, 2, 3, 4, 0};
        for (int weekday = 0; weekday < 7; weekday++) {
            Check.due("pain of weekday " + weekday, b.pain(0, weekday), due[weekday]);
            Check.due("pain of weekday " + weekday, b.pain(1, weekday), weekday == 6 ? 9 : 0);
        }
        Check.outside("weekday -1", () -> b.pain(0, -1));
        Check.outside("weekday 7", () -> b.pain(0, 7));
        Check.outside("weekday 7 of the last", () -> b.pain(1, 7));
        Check.outside("person -1", () -> b.pain(-1, 6));
        Check.outside("person 2", () -> b.pain(2, 0));
        Check.outside("the greatest", () -> b.pain(INT, INT));
        Check.outside("the least weekday", () -> b.pain(0, Integer.MIN_VALUE));
    }

    private static void sevenFigures() {
        Check.sentence("F: just 7 figures", 4);
        PainBank b = new PainBank();
        Check.wrongBank(b, "person bears 1 pain 123456", 20);
        Check.rightBank(b, "person bears 1 pain 1234567");
        Check.wrongBank(b, "person bears 1 pain 12345678", 20);
        Check.wrongBank(b, "person bears 1 pain 01234567", 20);
        Check.wrongBank(b, "person bears 1 pain 7", 20);
        Check.wrongBank(b, "person bears 1 pain 12345670000000", 20);
        Check.wrongBank(b, "person bears 1 pain 1234 567", 20);
        Check.wrongBank(b, "person bears 1 pain 123456 7", 20);
        Check.wrongBank(b, "person bears 1 pain ;", 20);
        Check.wrongBank(b, "person bears 1 pain abcdefg", 20);
        Check.wrongBank(b, "person bears 1 1234567", 15);
        Check.rightBank(b, "person bears 1 pain 0000000");
        Check.rightBank(b, "person bears 1 pain 9999999");
        Check.wrongBank(b, "person bears 1 pain 1234567 8", 28);
        Check.wrongBank(b, "person bears 1 pain 4294967296", 20);
    }

    private static void accounts() {
        Check.sentence("an ACCOUNT 0 to 99999 (0 at first)", 4, 7);
        PainBank b = two();
        Check.due("at first", b.person(0, 1), 0);
        Check.rightBank(b, "account 0 99998");
        Check.due("99998", b.person(0, 1), 99998);
        Check.rightBank(b, "account 0 99999");
        Check.due("99999", b.person(0, 1), 99999);
        Check.wrongBank(b, "account 0 100000", 10);
        Check.rightBank(b, "account 0 1");
        Check.due("1", b.person(0, 1), 1);
        Check.rightBank(b, "account 0 0");
        Check.due("0", b.person(0, 1), 0);
        Check.wrongBank(b, "account 0 -1", 10);
        Check.due("the other one's", b.person(1, 1), 0);
    }

    private static void aliveOrDead() {
        Check.sentence("ALIVE or dead", 4, 7, 50);
        PainBank b = Check.banked(people(3) + ";account 1 50;forged 1 5");
        Check.due("alive at first", b.count(1), 7);
        Check.due("alive at first", b.person(1, 3), 1);
        Check.rightBank(b, "dead 1");
        Check.due("dead", b.person(1, 3), 0);
        Check.due("dead", b.count(1), 5);
        Check.due("the account is not told anew", b.person(1, 1), 50);
        Check.due("nor forged", b.person(1, 2), 5);
        Check.rightBank(b, "dead 1;dead 0");
        Check.due("dead once more", b.count(1), 4);
        b.die(2);
        Check.due("nobody", b.count(1), 0);
        Check.rightBank(b, ONE);
        Check.due("a new one is alive", b.count(1), 8);
    }

    private static void heirs() {
        Check.sentence("an HEIR (a PERSON, not oneself), or none", 4, 7);
        PainBank b = two();
        Check.due("none", b.person(0, 4), -1);
        Check.rightBank(b, "heir 0 1");
        Check.due("heir", b.person(0, 4), 1);
        Check.due("none", b.person(1, 4), -1);
        Check.wrongBank(b, "heir 0 0", 7);
        Check.wrongBank(b, "heir 1 1", 7);
        Check.wrongBank(b, "heir 0 2", 7);
        Check.wrongBank(b, "heir 2 0", 5);
        Check.due("heir", b.person(0, 4), 1);
        Check.rightBank(b, "heir 1 0");
        Check.due("heir", b.person(1, 4), 0);
    }

    private static void hears() {
        Check.sentence("HEARS others, as bits (nobody at first)", 4, 7);
        PainBank b = Check.banked(people(8));
        Check.due("at first", b.person(7, 5), 0);
        Check.rightBank(b, "hears 7 0");
        Check.due("0", b.person(7, 5), 1);
        Check.rightBank(b, "hears 7 6;hears 0 7");
        Check.due("0 and 6", b.person(7, 5), 65);
        Check.due("7", b.person(0, 5), 128);
        Check.rightBank(b, "hears 7 6");
        Check.due("no one twice", b.person(7, 5), 65);
        Check.wrongBank(b, "hears 7 7", 8);
        Check.wrongBank(b, "hears 7 8", 8);
    }

    private static void forged() {
        Check.sentence("FORGED 0 at first: so much of the ACCOUNT is nobody's pain", 4, 7);
        PainBank b = Check.banked(TWO + ";account 0 50");
        Check.due("at first", b.person(0, 2), 0);
        Check.sentence("N of forged: what the ACCOUNT has at most, else it is wrong", 4, 7);
        Check.rightBank(b, "forged 0 49");
        Check.due("49", b.person(0, 2), 49);
        Check.rightBank(b, "forged 0 50");
        Check.due("50", b.person(0, 2), 50);
        Check.wrongBank(b, "forged 0 51", 9);
        Check.due("50", b.person(0, 2), 50);
        Check.rightBank(b, "forged 0 0;forged 1 0");
        Check.due("0", b.person(0, 2), 0);
        Check.wrongBank(b, "forged 1 1", 9);
        Check.rightBank(b, "account 1 99999;forged 1 99999");
        Check.due("99999", b.person(1, 2), 99999);
        Check.wrongBank(b, "forged 1 100000", 9);
        Check.rightBank(b, "account 0 60;forged 0 60");
        Check.wrongBank(b, "account 0 59;forged 0 60", 22);
        Check.due("account", b.person(0, 1), 60);
    }

    private static void accountEndsForged() {
        Check.sentence("account: FORGED is 0 then.", 4, 7);
        PainBank b = Check.banked(TWO + ";account 0 50;forged 0 50;account 1 9;forged 1 9");
        Check.rightBank(b, "account 0 50");
        Check.due("the same account", b.person(0, 2), 0);
        Check.due("the other one's", b.person(1, 2), 9);
        Check.rightBank(b, "forged 0 7;account 0 99");
        Check.due("in one text", b.person(0, 2), 0);
    }

    private static void vault() {
        Check.sentence("THE VAULT holds 0 to 99999 (999 at first)", 4, 50);
        PainBank b = new PainBank();
        Check.due("at first", b.count(5), 999);
        Check.rightBank(b, "vault 0");
        Check.due("0", b.count(5), 0);
        Check.rightBank(b, "vault 1");
        Check.due("1", b.count(5), 1);
        Check.rightBank(b, "vault 99998");
        Check.due("99998", b.count(5), 99998);
        Check.rightBank(b, "vault 99999");
        Check.due("99999", b.count(5), 99999);
        Check.wrongBank(b, "vault 100000", 6);
        Check.wrongBank(b, "vault -1", 6);
        Check.due("99999", b.count(5), 99999);
    }

    private static void rate() {
        Check.sentence("RATE 0 to 20 (2 at first)", 4, 50);
        PainBank b = new PainBank();
        Check.due("at first", b.count(6), 2);
        for (int rate : new int[] {0, 1, 19, 20}) {
            Check.rightBank(b, "rate " + rate);
            Check.due("rate", b.count(6), rate);
        }
        Check.wrongBank(b, "rate 21", 5);
        Check.wrongBank(b, "rate 99999", 5);
        Check.due("rate", b.count(6), 20);
    }

    private static void rainAndFall() {
        Check.sentence("RAIN, FALL 0 to 100 (0 at first)", 4, 50);
        PainBank b = new PainBank();
        Check.due("rain at first", b.count(7), 0);
        Check.due("fall at first", b.count(8), 0);
        int other = 0;
        for (int n : new int[] {1, 99, 100, 0}) {
            Check.rightBank(b, "rain " + n);
            Check.due("rain", b.count(7), n);
            Check.due("fall stays", b.count(8), other);
            Check.rightBank(b, "fall " + n);
            Check.due("fall", b.count(8), n);
            other = n;
        }
        Check.wrongBank(b, "rain 101", 5);
        Check.wrongBank(b, "fall 101", 5);
        Check.due("rain", b.count(7), 0);
        Check.due("fall", b.count(8), 0);
    }

    private static void owed() {
        Check.sentence("what the one owes the other one by cheques, 0 to 9999 (0 at first)", 4, 9);
        PainBank b = two();
        Check.due("at first", b.owed(0, 1), 0);
        Check.sentence("N of owes: 0 to 9999", 4, 9);
        for (int n : new int[] {1, 9998, 9999}) {
            Check.rightBank(b, "owes 0 1 " + n);
            Check.due("owed", b.owed(0, 1), n);
        }
        Check.due("the other way", b.owed(1, 0), 0);
        Check.wrongBank(b, "owes 0 1 10000", 9);
        Check.due("owed", b.owed(0, 1), 9999);
        Check.rightBank(b, "owes 0 1 0");
        Check.due("owed", b.owed(0, 1), 0);
        Check.wrongBank(b, "owes 0 1 -1", 9);
    }

    private static void byThen() {
        Check.sentence("P: a PERSON that there is by then", 4);
        PainBank b = new PainBank();
        Check.wrongBank(b, "account 0 1;" + ONE, 8);
        Check.rightBank(b, ONE + ";account 0 1");
        Check.wrongBank(b, "account 1 1;" + ONE, 8);
        Check.wrongBank(b, "heir 0 1;" + ONE, 7);
        Check.wrongBank(b, "hears 0 1;" + ONE, 8);
        Check.wrongBank(b, "owes 0 1 1;" + ONE, 7);
        Check.wrongBank(b, "forged 1 0;" + ONE, 7);
        Check.wrongBank(b, "dead 1;" + ONE, 5);
        Check.rightBank(b, ONE + ";heir 0 1;hears 0 1;owes 0 1 1;forged 1 0;account 1 4;dead 1");
        Check.due("account", b.person(1, 1), 4);
        // Somebody dead is one that there is.
        Check.rightBank(b, "account 1 5;heir 0 1;dead 1");
        Check.due("account", b.person(1, 1), 5);
    }

    private static void notTheFirstOne() {
        Check.sentence("the second of heir, hears, owes is not the first one: else it is wrong", 4);
        PainBank b = two();
        for (int p = 0; p < 2; p++) {
            String same = " " + p + " " + p;
            String others = " " + p + " " + (1 - p);
            Check.wrongBank(b, "heir" + same, 7);
            Check.wrongBank(b, "hears" + same, 8);
            Check.wrongBank(b, "owes" + same + " 1", 7);
            Check.rightBank(b, "heir" + others + ";hears" + others + ";owes" + others + " 1");
        }
        Check.wrongBank(b, "heir 1 00001", 7);
        // Of those with one person and a number both may be alike.
        Check.rightBank(b, "account 1 1;forged 1 1");
    }

    private static void fiveDigits() {
        Check.sentence("Numbers are of 1 to 5 digits.", 4);
        PainBank b = Check.banked(TWO + ";account 0 9");
        String[] lines = {"account 1 #", "account # 7", "heir 0 #", "heir # 0", "hears 0 #", "hears # 0", "owes 0 1 #", "owes 0 # 5",
            "owes # 0 5", "forged 0 #", "forged # 0", "vault #", "rate #", "rain #", "fall #", "person bears # pain 0000000"};
        StringBuilder right = new StringBuilder();
        int texts = 0;
        for (String line : lines) {
            int at = line.indexOf('#');
            right.append(right.length() == 0 ? "" : ";").append(line.replace("#", "00001"));
            Check.wrongBank(b, line.replace("#", "000001"), at);
            Check.wrongBank(b, line.replace("#", "000000000000000000001"), at);
            Check.wrongBank(b, line.substring(0, at), at);
            Check.wrongBank(b, line.substring(0, at) + ";", at);
            texts++;
            if (texts % 8 == 0) {
                Check.rightBank(b, right.toString());
                right.setLength(0);
            }
        }
        Check.rightBank(b, "dead 00001");
        Check.wrongBank(b, "dead 000001", 5);
        Check.wrongBank(b, "dead", 4);
        Check.rightBank(b, "rate 3");
        Check.due("1 digit", b.count(6), 3);
        // A number that would go round an int is still out of its bounds.
        Check.wrongBank(b, "rate 4294967297", 5);
        Check.wrongBank(b, "account 4294967296 1", 8);
    }

    private static void words() {
        Check.sentence("Words are as long as a to z go on", 4, 5, 6);
        PainBank b = new PainBank();
        Check.rightBank(b, "person bears9pain0000000");
        Check.wrongBank(b, "personbears9pain0000000", 0);
        Check.wrongBank(b, "rates 1", 0);
        Check.wrongBank(b, "rat 1", 0);
        Check.wrongBank(b, "ra te 1", 0);
        Check.wrongBank(b, "Rate 1", 0);
        Check.wrongBank(b, "ratE 1", 0);
        Check.wrongBank(b, "ratez1", 0);
        // The bytes ahead of a and behind z, ahead of 0 and behind 9 end words and numbers.
        Check.wrongBank(b, "rate`1", 4);
        Check.wrongBank(b, "rate{1", 4);
        Check.wrongBank(b, "rate@1", 4);
        Check.wrongBank(b, "rate 1/", 6);
        Check.wrongBank(b, "rate 1:", 6);
        Check.rightBank(b, "rate 0;rate 9");
        Check.wrongBank(b, "rate 1rate 2", 6);
        Check.wrongBank(b, "1rate", 0);
        Check.rightLaw(b, "put1if(wet)and sunday", 1);
        Check.wrongLaw(b, "put1if(wet)andsunday", 11);
        Check.wrongLaw(b, "put 1 if wet andz sunday", 13);
        Check.rightLaw(b, "put 1if 1<day", 1);
        Check.wrongLaw(b, "put 1 ifwet", 6);
    }

    private static void wordsThatAreNone() {
        Check.sentence("a word that is none", 4, 5, 6);
        String bank = "person bears 9 pain 0000000;person bears 9 pain 0000000;account 0 1;heir 0 1;hears 0 1;vault 1;rate 1;rain 1;fall 1;"
            + "owes 0 1 1;forged 0 1;dead 0";
        String law = "put 1 if wet and sunday or not who + pain + account + bears + day < 5;draw 2";
        PainBank b = new PainBank();
        Check.rightBank(b, bank);
        Check.rightLaw(b, law, 2);
        for (String word : new String[] {"person", "bears", "pain", "account", "heir", "hears", "vault", "rate", "rain", "fall", "owes", "forged", "dead"}) {
            for (String bent : bent(word)) {
                Check.wrongBank(new PainBank(), bank.replaceFirst("\\b" + word + "\\b", bent), bank.indexOf(word));
            }
        }
        for (String word : new String[] {"put", "if", "wet", "and", "sunday", "or", "not", "who", "pain", "account", "bears", "day", "draw"}) {
            for (String bent : bent(word)) {
                int at = law.replaceFirst("\\b" + word + "\\b", "#").indexOf('#');
                Check.wrongLaw(new PainBank(), law.replaceFirst("\\b" + word + "\\b", bent), at);
            }
        }
    }

    /** Another first letter, another last one, one less at either end, one more at either end. */
    private static String[] bent(String word) {
        String less = word.substring(0, word.length() - 1);
        return new String[] {"z" + word.substring(1), less + "z", less, word.substring(1), word + "z", "z" + word};
    }

    private static void blanks() {
        Check.sentence("between all there may be blanks (32), also ahead and behind", 4, 5);
        PainBank b = new PainBank();
        Check.rightBank(b, "   person   bears   9   pain   0000000   ;   rate   5   ");
        Check.due("rate", b.count(6), 5);
        Check.rightBank(b, "rate6");
        Check.due("rate", b.count(6), 6);
        Check.rightLaw(b, "  put  1  if  (  not  wet  )  and  1  +  2  <  day  ;  draw  3  ", 2);
        // 31 and 33, a tab, a line's end, 0 and 160 are none.
        for (char sign : new char[] {31, 33, 9, 10, 13, 0, 160}) {
            Check.wrongBank(b, "rate" + sign + "1", 4);
            Check.wrongBank(b, sign + "rate 1", 0);
            Check.wrongBank(b, "rate 1" + sign, 6);
            Check.wrongLaw(b, "put" + sign + "1", 3);
        }
        Check.wrongBank(b, "vault 1 0", 8);
        Check.wrongBank(b, "va ult 1", 0);
    }

    private static void noLine() {
        Check.sentence("A text that is empty, or blanks alone, has no LINE.", 4, 5);
        PainBank b = new PainBank();
        Check.rightBank(b, "");
        Check.rightBank(b, " ");
        Check.rightBank(b, " ".repeat(400));
        Check.due("texts all the same", b.count(2), 3);
        Check.rightLaw(b, "", 0);
        Check.due("a law without lines", b.count(3), 0);
        Check.rightLaw(b, "put 1", 1);
        Check.rightLaw(b, "  ", 0);
        Check.due("a law without lines", b.count(3), 0);
        Check.wrongBank(b, ";", 0);
        Check.wrongBank(b, " ; ", 1);
        Check.wrongBank(b, "rate 1; ;rate 1", 8);
        Check.wrongLaw(b, ";", 0);
        Check.wrongLaw(b, "put 1;;put 1", 6);
    }

    private static void wrongBytes() {
        Check.sentence("The first wrong byte: the begin of the first thing that cannot stand there", 6);
        PainBank b = two();
        Check.wrongBank(b, "  rate  5  6", 11);
        Check.wrongBank(b, "rate 5 rate 6", 7);
        Check.wrongBank(b, "rate 5,rate 21", 6);
        Check.wrongBank(b, "rate rate", 5);
        Check.wrongBank(b, "vault 5;rate x;ache", 13);
        Check.sentence("a number of more digits, or out of its bounds, or that tells none that can be", 6);
        Check.wrongBank(b, "vault  000001", 7);
        Check.wrongBank(b, "rate  21", 6);
        Check.wrongBank(b, "dead  2", 6);
        Check.wrongLaw(b, "put  0001", 5);
        Check.wrongLaw(b, "put  100", 5);
        Check.sentence("figures that are not just 7", 6);
        Check.wrongBank(b, "person bears 1 pain  000", 21);
        Check.sentence("a word that is none", 6);
        Check.wrongBank(b, "rate 1; ache 1", 8);
        Check.wrongLaw(b, "put 1; ache 1", 7);
        Check.wrongLaw(b, "put 1 if ache > 1", 9);
        Check.wrongBank(b, "draw 1", 0);
        Check.wrongLaw(b, "rate 1", 0);
        Check.sentence("the ( or not that is a 7th one deep", 6, 5);
        Check.wrongLaw(b, "put 1 if (((((( (wet", 16);
        Check.wrongLaw(b, "put 1 if (((((( not wet", 16);
        Check.sentence("of a LINE, a PERSON too many, the first word", 6, 4, 5);
        Check.wrongBank(b, rates(14) + ";  rate 1", 100);
        Check.wrongBank(b, people(6) + ";  person bears 100", 170);
        Check.wrongLaw(b, "put 1;".repeat(12) + "  put 1", 74);
    }

    private static void moreMustCome() {
        Check.sentence("or the text's length, if more must come", 6);
        PainBank b = two();
        String[] texts = {"person", "person bears", "person bears 9", "person bears 9 pain", "account", "account 0", "heir", "heir 0", "hears 0",
            "owes 0", "owes 0 1", "forged", "forged 0", "vault", "rate", "rain", "fall", "dead", "rate 1;", "rate 1; "};
        for (String text : texts) {
            Check.wrongBank(b, text, text.length());
            Check.wrongBank(b, text + "   ", text.length() + 3);
        }
        String[] laws = {"put", "draw", "put 1 if", "put 1 if not", "put 1 if (", "put 1 if (wet", "put 1 if 1", "put 1 if 1 +", "put 1 if 1 <",
            "put 1 if 1 > 1 +", "put 1 if wet and", "put 1 if wet or", "put 1;", "put 1 if (wet) and"};
        for (String law : laws) {
            Check.wrongLaw(b, law, law.length());
            Check.wrongLaw(b, law + "  ", law.length() + 2);
        }
        String full = "rate 1" + " ".repeat(393) + ";";
        Check.wrongBank(b, full, 400);
        Check.wrongLaw(b, "put 1" + " ".repeat(394) + ";", 400);
    }

    private static void nothingStays() {
        Check.sentence("Of a wrong text nothing stays.", 4, 5);
        PainBank b = Check.banked(TWO + ";account 0 50;forged 0 5;heir 0 1;hears 0 1;owes 0 1 5");
        b.put(0, 1);
        Check.wrongBank(b, "account 0 7;forged 0 1;heir 1 0;hears 1 0;owes 0 1 6;vault 1;rate 1;rain 1;fall 1;dead 1;" + ONE + ";ache", 117);
        int[] counts = {2, 3, 1, -1, 0, 999, 2, 0, 0, 51, 5, 0, 0, 0, 1};
        for (int what = 0; what < counts.length; what++) {
            Check.due("count(" + what + ")", b.count(what), counts[what]);
        }
        int[] person = {9, 51, 5, 1, 1, 2};
        for (int what = 0; what < person.length; what++) {
            Check.due("person(0, " + what + ")", b.person(0, what), person[what]);
        }
        Check.due("owed", b.owed(0, 1), 5);
        Check.due("heir", b.person(1, 4), -1);
        Check.due("hears", b.person(1, 5), 0);
        Check.wrongLaw(b, "put 1;put", 9);
        Check.due("no law", b.count(3), -1);
        Check.rightLaw(b, "put 1;put 2;put 3", 3);
        Check.wrongLaw(b, "put 1;put", 9);
        Check.due("the law before", b.count(3), 3);
        b.put(0, 1);
        Check.wrongLaw(b, "put", 3);
        Check.wrongBank(b, "rate", 4);
        Check.due("acts are still remembered", b.undo(), true);
    }

    private static void faultOfTheLatest() {
        Check.sentence("The first wrong byte of the latest text that was read; NONE without one, and ahead of any.", 6);
        PainBank b = new PainBank();
        Check.due("ahead of any", b.fault(), -1);
        Check.wrongBank(b, "rate", 4);
        Check.due("asked again", b.fault(), 4);
        Check.wrongLaw(b, "put x", 4);
        Check.wrongLaw(b, "x", 0);
        Check.due("0 is a byte", b.fault(), 0);
        Check.rightBank(b, "rate 1");
        Check.wrongBank(b, "vault", 5);
        Check.rightLaw(b, "", 0);
        Check.wrongLaw(b, "vault", 0);
        Check.feed(b, "rate 3");
        Check.due("a text that is not read yet", b.fault(), 0);
    }
}
