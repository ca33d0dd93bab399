/** The edges of the law and of what is put and drawn by it, a sentence of the document each. */
final class LawEdges {
    private LawEdges() {
    }

    static void run() {
        inPlaceOfTheOneBefore();
        twelveLines();
        amounts();
        threeDigits();
        conditions();
        orAndAnd();
        comparisons();
        sums();
        parts();
        wet();
        sunday();
        painAtMost();
        accountAtMost();
        aheadOfThatDay();
        byThen();
        withoutText();
        sixDeep();
    }

    /** One with pains 9 8 7 6 5 4 3, who bears 10. */
    private static PainBank one(int account) {
        return Check.banked("person bears 10 pain 9876543;vault 99999;rate 0;account 0 " + account);
    }

    /** By this law, with this account, so much is put and drawn on day 0, when the pain is 9. */
    private static void today(String law, int account, int put, int drawn) {
        PainBank b = one(account);
        Check.rule(b, law);
        Check.due("put by '" + law + "'", b.today(0, 0), put);
        Check.due("drawn by '" + law + "'", b.today(0, 1), drawn);
        Check.due("felt by '" + law + "'", b.today(0, 2), 9 - put + drawn);
    }

    private static void holds(String condition, boolean due) {
        today("put 1 if " + condition, 50, due ? 1 : 0, 0);
    }

    private static void inPlaceOfTheOneBefore() {
        Check.sentence("THE LAW (a text, in place of the one before)", 5, 50);
        PainBank b = one(50);
        Check.due("without one", b.count(3), -1);
        Check.rightLaw(b, "put 1;put 2", 2);
        Check.due("put", b.today(0, 0), 3);
        Check.rightLaw(b, "draw 4", 1);
        Check.due("no longer put", b.today(0, 0), 0);
        Check.due("drawn", b.today(0, 1), 4);
        Check.due("lines", b.count(3), 1);
        Check.rightLaw(b, "put 5", 1);
        Check.due("put", b.today(0, 0), 5);
        Check.due("no longer drawn", b.today(0, 1), 0);
        Check.rightLaw(b, "", 0);
        Check.due("no longer put", b.today(0, 0), 0);
        Check.due("lines", b.count(3), 0);
    }

    private static void twelveLines() {
        Check.sentence("LINE { ; LINE }, at most 12", 5);
        PainBank b = one(50);
        Check.rightLaw(b, "draw 1", 1);
        Check.rightLaw(b, "draw 1;".repeat(10) + "draw 1", 11);
        Check.rightLaw(b, "draw 1;".repeat(11) + "draw 9", 12);
        Check.due("the 12th counts", b.today(0, 1), 20);
        Check.due("lines", b.count(3), 12);
        Check.wrongLaw(b, "draw 1;".repeat(12) + "draw 1", 84);
        Check.wrongLaw(b, "draw 1;".repeat(12) + "ache", 84);
        Check.wrongLaw(b, "draw 1;".repeat(12), 84);
        Check.wrongLaw(b, "draw 1;".repeat(12) + "  ", 86);
        Check.wrongLaw(b, "draw 1;".repeat(11) + "draw 100;draw 1", 82);
        Check.due("the law before", b.today(0, 1), 20);
    }

    private static void amounts() {
        Check.sentence("All numbers are of 1 to 3 digits (N 0 to 99).", 5);
        today("draw 0", 500, 0, 0);
        today("draw 1", 500, 0, 1);
        today("draw 98", 500, 0, 98);
        today("draw 99", 500, 0, 99);
        today("put 0", 500, 0, 0);
        PainBank b = one(0);
        Check.wrongLaw(b, "draw 100", 5);
        Check.wrongLaw(b, "put 100", 4);
        Check.wrongLaw(b, "put -1", 4);
        Check.rightLaw(b, "put 99", 1);
    }

    private static void threeDigits() {
        Check.sentence("All numbers are of 1 to 3 digits", 5);
        today("draw 7", 500, 0, 7);
        today("draw 07", 500, 0, 7);
        today("draw 007", 500, 0, 7);
        PainBank b = one(0);
        Check.wrongLaw(b, "draw 0007", 5);
        Check.wrongLaw(b, "draw", 4);
        Check.wrongLaw(b, "draw if", 5);
        holds("998 < 999", true);
        holds("999 < 999", false);
        holds("0 < 001", true);
        Check.wrongLaw(b, "put 1 if 1000 > 1", 9);
        Check.wrongLaw(b, "put 1 if 0001 > 1", 9);
        Check.wrongLaw(b, "put 1 if 1 > 1000", 13);
        Check.wrongLaw(b, "put 1 if 1 + 0001 > 1", 13);
        Check.wrongLaw(b, "put 4294967297", 4);
        Check.wrongLaw(b, "put 1 if 4294967297 > 1", 9);
    }

    private static void conditions() {
        Check.sentence("put N [ if C ] | draw N [ if C ]", 5);
        today("put 1", 50, 1, 0);
        today("draw 1", 50, 0, 1);
        today("put 1 if 0 < 1;draw 2 if 1 < 0;put 3 if 1 < 0;draw 4 if 0 < 1", 50, 1, 4);
        PainBank b = one(0);
        Check.wrongLaw(b, "put 1 if", 8);
        Check.wrongLaw(b, "put 1 if ;put 1", 9);
        Check.wrongLaw(b, "put 1 0 < 1", 6);
        Check.wrongLaw(b, "put 1 if if wet", 9);
        Check.wrongLaw(b, "put if wet", 4);
        Check.wrongLaw(b, "put 1 if 1", 10);
        Check.wrongLaw(b, "put 1 if wet + 1 > 0", 13);
        Check.wrongLaw(b, "put 1 if ()", 10);
        Check.wrongLaw(b, "put 1 if (wet))", 14);
        Check.wrongLaw(b, "put 1 if (wet;put 1)", 13);
        Check.wrongLaw(b, "put 1 if not and wet", 13);
        Check.wrongLaw(b, "put 1 if (1) > 0", 11);
        Check.wrongLaw(b, "put 1 if 1 < 2 < 3", 15);
    }

    private static void orAndAnd() {
        Check.sentence("C: ALL { or ALL }; ALL: ATOM { and ATOM }", 5);
        String yes = "0 < 1";
        String no = "1 < 0";
        holds(yes + " or " + no, true);
        holds(no + " or " + yes, true);
        holds(no + " or " + no, false);
        holds(yes + " and " + no, false);
        holds(yes + " and " + yes, true);
        holds(yes + " or " + yes + " and " + no, true);
        holds(no + " and " + no + " or " + yes, true);
        holds("(" + yes + " or " + yes + ") and " + no, false);
        holds("not " + no + " and " + no, false);
        holds("not (" + no + " and " + no + ")", true);
        holds("not " + no + " or " + yes, true);
        holds("not (" + no + " or " + yes + ")", false);
        holds(no + " or " + no + " or " + no + " or " + yes, true);
        holds(yes + " and " + yes + " and " + yes + " and " + no, false);
    }

    private static void comparisons() {
        Check.sentence("SUM < SUM | SUM > SUM", 5);
        holds("8 < 9", true);
        holds("9 < 9", false);
        holds("10 < 9", false);
        holds("10 > 9", true);
        holds("9 > 9", false);
        holds("8 > 9", false);
        Check.wrongLaw(one(0), "put 1 if 1 = 1", 11);
        Check.wrongLaw(one(0), "put 1 if 1 << 2", 12);
        Check.wrongLaw(one(0), "put 1 if 1 >", 12);
        Check.wrongLaw(one(0), "put 1 if < 1", 9);
    }

    private static void sums() {
        Check.sentence("SUM: PART { + PART }", 5);
        holds("1 + 2 + 3 < 7", true);
        holds("1 + 2 + 3 < 6", false);
        holds("7 > 1 + 2 + 3", true);
        holds("6 > 1+2+3", false);
        holds("999+999+999 > 999+999+998", true);
        Check.wrongLaw(one(0), "put 1 if 1 + > 1", 13);
        Check.wrongLaw(one(0), "put 1 if + 1 > 1", 9);
        Check.wrongLaw(one(0), "put 1 if 1 + + 1 > 1", 13);
        Check.wrongLaw(one(0), "put 1 if 1 - 1 < 1", 11);
        // The longest sum that a tape takes.
        StringBuilder text = new StringBuilder("put 1 if 191 < 1");
        for (int i = 1; i < 192; i++) {
            text.append("+1");
        }
        Check.due("length", text.length(), 398);
        PainBank b = one(0);
        Check.rightLaw(b, text.toString(), 1);
        Check.due("it holds", b.today(0, 0), 1);
    }

    private static void parts() {
        Check.sentence("PART: NUMBER | who | pain | account | bears | day", 5);
        PainBank b = Check.banked("person bears 10 pain 9876543;person bears 99 pain 1111111;account 0 50;account 1 7;vault 99999;rate 0");
        String[] parts = {"who", "pain", "account", "bears", "day"};
        int[][] due = {{0, 9, 50, 10, 0}, {1, 1, 7, 99, 0}};
        for (int p = 0; p < 2; p++) {
            for (int i = 0; i < parts.length; i++) {
                int n = due[p][i];
                Check.rightLaw(b, "put 1 if " + parts[i] + " + 1 > " + n + " and " + parts[i] + " < " + n + " + 1", 1);
                Check.due(parts[i] + " of " + p, b.today(p, 0), 1);
            }
        }
        b.days(8);
        Check.rightLaw(b, "put 1 if day > 7 and day < 9 and pain > 7 and pain < 9", 1);
        Check.due("on day 8, weekday 1", b.today(0, 0), 1);
        Check.wrongLaw(b, "put 1 if days > 7", 9);
        Check.wrongLaw(b, "put 1 if wet + 1 > 0", 13);
        Check.wrongLaw(b, "put 1 if forged > 0", 9);
    }

    private static void wet() {
        Check.sentence("wet: it rains", 5, 19);
        PainBank b = one(0);
        Check.tell(b, "rain 100");
        Check.rightLaw(b, "put 1 if wet", 1);
        Check.due("today it does not", b.today(0, 0), 0);
        b.days(1);
        Check.due("by days it does", b.person(0, 1), 1);
        Check.rightBank(b, "rain 0");
        b.days(1);
        Check.due("never", b.person(0, 1), 1);
    }

    private static void sunday() {
        Check.sentence("sunday: WEEKDAY 6", 5);
        Check.sentence("WEEKDAY: DAY modulo 7", 5, 8);
        PainBank b = one(0);
        Check.rightLaw(b, "put 1 if sunday", 1);
        int[][] due = {{5, 0}, {6, 0}, {7, 1}, {8, 1}, {13, 1}, {14, 2}, {20, 2}, {21, 3}};
        for (int[] row : due) {
            Check.due("sundays in " + row[0] + " days", b.ahead(0, row[0]), row[1]);
        }
        b.days(6);
        Check.due("on day 6", b.today(0, 0), 1);
        Check.due("whose pain is the 7th", b.today(0, 2), 2);
        b.days(1);
        Check.due("on day 7", b.today(0, 0), 0);
        Check.due("whose pain is the first", b.today(0, 2), 9);
    }

    private static void painAtMost() {
        Check.sentence("PUT: the sum of N of all put LINES that hold, PAIN at most", 5, 10);
        today("put 8", 0, 8, 0);
        today("put 9", 0, 9, 0);
        today("put 10", 0, 9, 0);
        today("put 4;put 4", 0, 8, 0);
        today("put 4;put 5", 0, 9, 0);
        today("put 5;put 5", 0, 9, 0);
        today("put 99;put 99", 0, 9, 0);
        PainBank none = Check.banked("person bears 10 pain 0000000");
        Check.rule(none, "put 1");
        Check.due("of no pain", none.today(0, 0), 0);
    }

    private static void accountAtMost() {
        Check.sentence("DRAWN: the sum of N of all draw LINES that hold, the ACCOUNT (ahead of that DAY) at most", 5, 10);
        today("draw 49", 50, 0, 49);
        today("draw 50", 50, 0, 50);
        today("draw 51", 50, 0, 50);
        today("draw 25;draw 25", 50, 0, 50);
        today("draw 25;draw 26", 50, 0, 50);
        today("draw 1", 0, 0, 0);
        today("draw 99;draw 99;draw 99", 297, 0, 297);
    }

    private static void aheadOfThatDay() {
        Check.sentence("the ACCOUNT (ahead of that DAY) at most", 5, 10, 20);
        today("put 9;draw 9", 0, 9, 0);
        today("put 9;draw 9", 8, 9, 8);
        today("put 9;draw 9", 9, 9, 9);
        today("put 9;draw 9", 10, 9, 9);
        PainBank b = one(3);
        Check.rule(b, "put 9;draw 9");
        Check.due("the account is what was put", b.ahead(0, 1), 9);
    }

    private static void byThen() {
        Check.sentence("PUT and DRAWN by all as it is by then", 19, 20);
        PainBank b = Check.banked("person bears 10 pain 1111111;person bears 10 pain 1111111;vault 99999;rate 0;account 0 3;account 1 5");
        Check.rule(b, "put 1 if account < 5;draw 2 if account > 4");
        // 0: 3, 4, 5, then 2 less each time that it is above 4; 1: 5, 3, 4, 5, 3.
        int[][] due = {{3, 5}, {4, 3}, {5, 4}, {3, 5}, {4, 3}};
        for (int n = 0; n < due.length; n++) {
            Check.due("0 by " + n, b.ahead(0, n), due[n][0]);
            Check.due("1 by " + n, b.ahead(1, n), due[n][1]);
        }
        // On the day itself the account ahead of it counts in both.
        PainBank c = one(4);
        Check.rule(c, "put 9;draw 3 if account > 4");
        Check.due("4 is not above 4", c.today(0, 1), 0);
    }

    private static void withoutText() {
        Check.sentence("Without a text: PUT is what PAIN is above BEARS, DRAWN what BEARS is above PAIN (the ACCOUNT at most).", 10, 5);
        int[][] due = {{7, 0, 1}, {8, 0, 0}, {9, 1, 0}};
        for (int[] row : due) {
            PainBank b = Check.banked("person bears 8 pain " + row[0] + "000000;account 0 50");
            Check.due("put with pain " + row[0], b.today(0, 0), row[1]);
            Check.due("drawn with pain " + row[0], b.today(0, 1), row[2]);
        }
        for (int account = 0; account < 12; account++) {
            PainBank b = Check.banked("person bears 10 pain 0000000;account 0 " + account);
            Check.due("drawn of " + account, b.today(0, 1), Math.min(10, account));
        }
        PainBank b = Check.banked("person bears 8 pain 9000000;account 0 50");
        Check.rightLaw(b, "", 0);
        Check.due("with an empty one nothing is put", b.today(0, 0), 0);
        PainBank c = Check.banked("person bears 8 pain 7000000;account 0 50");
        Check.rightLaw(c, " ", 0);
        Check.due("and nothing drawn", c.today(0, 1), 0);
    }

    private static void sixDeep() {
        Check.sentence("( and not within one another at most 6 deep.", 5);
        PainBank b = one(0);
        Check.rightLaw(b, "put 1 if (((((0 < 1)))))", 1);
        Check.rightLaw(b, "put 1 if ((((((0 < 1))))))", 1);
        Check.due("it holds", b.today(0, 0), 1);
        Check.wrongLaw(b, "put 1 if (((((((0 < 1)))))))", 15);
        Check.rightLaw(b, "put 1 if not not not not not 0 < 1", 1);
        Check.due("it does not hold", b.today(0, 0), 0);
        Check.rightLaw(b, "put 1 if not not not not not not 0 < 1", 1);
        Check.due("it holds", b.today(0, 0), 1);
        Check.wrongLaw(b, "put 1 if not not not not not not not 0 < 1", 33);
        Check.rightLaw(b, "put 1 if not(not(not(0<1)))", 1);
        Check.due("it does not hold", b.today(0, 0), 0);
        Check.wrongLaw(b, "put 1 if not(not(not(not wet)))", 21);
        Check.wrongLaw(b, "put 1 if not(not(not((wet))))", 21);
        // Beside one another they are no deeper.
        Check.rightLaw(b, "put 1 if ((((((0<1))))))and((((((0<1))))))or not not not not not not wet", 1);
        Check.rightLaw(b, "put 1 if not wet and not wet and not wet and not wet and not wet and not wet and not wet", 1);
        Check.due("it holds", b.today(0, 0), 1);
        Check.rightLaw(b, "put 1 if ((((((wet)and(wet))and(wet))and(wet))and(wet))or(((((0<1))))))", 1);
        Check.due("it holds", b.today(0, 0), 1);
        Check.wrongLaw(b, "put 1 if (wet and ((((((0<1)))))))", 23);
        Check.rightLaw(b, "put 1 if ((((((0<1))))));put 2 if ((((((0<1))))))", 2);
        Check.due("in each line anew", b.today(0, 0), 3);
    }
}
