/** Promises 1 to 6: a new object, the tape, texts of the bank and of the law, the first wrong byte. */
public final class TextTest {
    private static final String ONE = "person bears 8 pain 1234567";

    public static void main(String[] args) {
        newObject();
        tape();
        bankTexts();
        bankOrder();
        wrongBankTexts();
        twelveTexts();
        lawTexts();
        wrongLawTexts();
        Check.finish();
    }

    private static void newObject() {
        PainBank b = new PainBank();
        int[] due = {0, 0, 0, -1, 0, 999, 2, 0, 0, 0, 0, 0, 0, 0, 0, -1};
        for (int what = 0; what < due.length; what++) {
            Check.due("new count(" + what + ")", b.count(what), due[what]);
        }
        Check.due("count(-1)", b.count(-1), -1);
        Check.due("fault", b.fault(), -1);
        Check.due("seed", b.seed(1), 1);
        Check.due("undo", b.undo(), false);
        Check.due("back", b.back(), false);
        Check.due("quiet", b.quiet(false), 0);
        Check.due("quiet much", b.quiet(true), 0);
        Check.due("spark", b.spark(), -1);
        Check.due("reserve", b.reserve(), 0);
        Check.due("fewest", b.fewest(), 0);
        Check.due("parted", b.parted(false), 0);
        Check.due("parted part", b.parted(true), 0);
        Check.due("netted", b.netted(), 0);
        Check.due("saint 0", b.saint(0, 6, false), 1);
        Check.due("first", b.first(true), -1);
        Check.due("feelings", b.feelings(), 0);
    }

    private static void tape() {
        PainBank b = new PainBank();
        Check.due("end(0)", b.end(0), true);
        Check.due("end(1)", b.end(1), false);
        Check.due("end(-1)", b.end(-1), false);
        for (int i = 1; i <= 20; i++) {
            Check.due("feed " + i, b.feed(0, 0, 0, 0, 0), 20 * i);
        }
        Check.due("feed over", b.feed(0, 0, 0, 0, 0), -1);
        Check.due("end(401)", b.end(401), false);
        Check.due("end(381)", b.end(381), true);
        Check.due("feed over by one", b.feed(0, 0, 0, 0, 0), -1);
        Check.due("end(380)", b.end(380), true);
        Check.due("feed full", b.feed(0, 0, 0, 0, 0), 400);
        Check.due("end(0)", b.end(0), true);
        // "rate 7" with the highest byte of each number first.
        Check.due("feed", b.feed(0x72617465, 0x20370000, 0, 0, 0), 20);
        b.end(6);
        Check.due("bank", b.bank(), 1);
        Check.due("rate", b.count(6), 7);
        Check.due("used up", b.end(1), false);
        b.feed(-1, -1, -1, -1, -1);
        Check.throwing("bytes of 255", IllegalArgumentException.class, b::bank);
        Check.due("fault", b.fault(), 0);
        Check.due("used up when wrong", b.end(1), false);
    }

    private static void bankTexts() {
        PainBank b = new PainBank();
        Check.due("bank", Check.tell(b, "  " + ONE + " ; person bears00099pain0000000;account 0 99999;forged0 00500 ;vault 0"), 1);
        Check.due("people", b.count(0), 2);
        Check.due("bears", b.person(1, 0), 99);
        Check.due("pain", b.pain(0, 6), 7);
        Check.due("pain", b.pain(0, 0), 1);
        Check.due("forged", b.person(0, 2), 500);
        Check.due("vault", b.count(5), 0);
        Check.due("bank", Check.tell(b, "hears 0 1;heir 1 0;owes 1 0 9999;rate 20;rain 100;fall 100;dead 1"), 2);
        Check.due("hears", b.person(0, 5), 2);
        Check.due("heir", b.person(1, 4), 0);
        Check.due("owed", b.owed(1, 0), 9999);
        Check.due("rate", b.count(6), 20);
        Check.due("rain", b.count(7), 100);
        Check.due("fall", b.count(8), 100);
        Check.due("alive", b.count(1), 1);
        Check.due("bank", Check.tell(b, "account 0 7;owes 1 0 3"), 3);
        Check.due("forged is 0 by account", b.person(0, 2), 0);
        Check.due("owes is told, not added", b.owed(1, 0), 3);
        Check.due("blanks", Check.tell(b, "   "), 4);
        Check.due("empty", Check.tell(b, ""), 5);
        Check.due("texts", b.count(2), 5);
        Check.due("fault", b.fault(), -1);
    }

    private static void bankOrder() {
        PainBank b = Check.banked(ONE + ";account 0 5;forged 0 5;dead 0");
        Check.due("the dead keep what a text tells", b.person(0, 1), 5);
        wrongBank(b, "account 0 4;forged 0 5", 21);
        Check.due("nothing stays", b.person(0, 1), 5);
        Check.due("nothing stays", b.person(0, 2), 5);
        wrongBank(b, "account 1 4;" + ONE, 8);
        Check.due("by then", Check.tell(b, ONE + ";account 1 4"), 2);
        PainBank full = Check.banked(ONE + ";" + ONE + ";" + ONE + ";" + ONE + ";" + ONE + ";" + ONE + ";" + ONE + ";" + ONE);
        Check.due("people", full.count(0), 8);
        wrongBank(full, "rate 3; person x", 8);
        wrongBank(full, "account 8 1", 8);
        Check.due("rate", full.count(6), 2);
        String rates = "rate 1;rate 1;rate 1;rate 1;rate 1;rate 1;rate 1;rate 1;rate 1;rate 1;rate 1;rate 1;rate 1;rate 1";
        Check.due("14 lines", Check.tell(full, rates), 2);
        wrongBank(full, rates + "; ", 99);
        wrongBank(full, rates + " ; 7", 100);
    }

    private static void wrongBankTexts() {
        PainBank b = new PainBank();
        wrongBank(b, ";", 0);
        wrongBank(b, "personbears 8 pain 1234567", 0);
        wrongBank(b, "Person bears 8 pain 1234567", 0);
        wrongBank(b, "person bear 8 pain 1234567", 7);
        wrongBank(b, "person bears x", 13);
        wrongBank(b, "person bears 100 pain 1234567", 13);
        wrongBank(b, "person bears 000001 pain 1234567", 13);
        wrongBank(b, "person bears 8", 14);
        wrongBank(b, "person bears 8 ", 15);
        wrongBank(b, "person bears 8 pains 1234567", 15);
        wrongBank(b, "person bears 8 pain 123 4567", 20);
        wrongBank(b, ONE + " " + ONE, 28);
        wrongBank(b, ONE + ",", 27);
        wrongBank(b, ONE + ";;", 28);
        wrongBank(b, ONE + ";account 0", 37);
        wrongBank(b, ONE + ";account 1 0", 36);
        wrongBank(b, ONE + ";account 0 -1", 38);
        wrongBank(b, ONE + ";hears 0 0", 36);
        wrongBank(b, ONE + ";hears 0 1", 36);
        wrongBank(b, ONE + ";" + ONE + ";owes 0 1 10000", 65);
        wrongBank(b, ONE + ";" + ONE + ";owes 0 1", 64);
        wrongBank(b, "rate\t1", 4);
        wrongBank(b, "rate 1 1", 7);
        wrongBank(b, "put 1", 0);
        Check.due("nobody", b.count(0), 0);
        Check.due("no text", b.count(2), 0);
    }

    private static void twelveTexts() {
        PainBank b = new PainBank();
        for (int i = 1; i <= 12; i++) {
            Check.due("text " + i, Check.tell(b, "rate 3"), i);
        }
        wrongBank(b, "rate x", 5);
        Check.feed(b, "rate 4");
        Check.throwing("a 13th text", UnsupportedOperationException.class, b::bank);
        Check.due("it was read", b.fault(), -1);
        Check.due("used up", b.end(1), false);
        Check.due("rate", b.count(6), 3);
        Check.due("texts", b.count(2), 12);
        Check.due("a law", Check.rule(b, "put 3"), 1);
    }

    private static void wrongBank(PainBank b, String text, int at) {
        Check.feed(b, text);
        Check.throwing("bank of " + text, IllegalArgumentException.class, b::bank);
        Check.due("fault of " + text, b.fault(), at);
    }

    private static void wrongLaw(PainBank b, String text, int at) {
        Check.feed(b, text);
        Check.throwing("law of " + text, IllegalArgumentException.class, b::law);
        Check.due("fault of " + text, b.fault(), at);
    }

    private static void lawTexts() {
        PainBank b = Check.banked("person bears 10 pain 9876543;account 0 500");
        holds(b, "", 0, 0);
        holds(b, "put 2", 2, 0);
        holds(b, "put 2;put 3;draw 7;draw 099", 5, 106);
        holds(b, "put 8;put 8", 9, 0);
        holds(b, "put 5 if wet", 0, 0);
        holds(b, "put 5 if not wet", 5, 0);
        holds(b, "put5if(not(wet))", 5, 0);
        holds(b, "put 5 if sunday", 0, 0);
        holds(b, "put 5 if pain > 8", 5, 0);
        holds(b, "put 5 if pain > 9", 0, 0);
        holds(b, "put 5 if pain < 9", 0, 0);
        holds(b, "put 5 if who < 1 and day < 1 and account > 499 and account < 501 and bears > 9", 5, 0);
        holds(b, "put 5 if pain + 1 + who < bears + 1", 5, 0);
        holds(b, "put 5 if wet and wet or not wet", 5, 0);
        holds(b, "put 5 if not wet or wet and wet", 5, 0);
        holds(b, "put 5 if (not wet or wet) and wet", 0, 0);
        holds(b, "put 5 if not wet and not wet and wet or 1 < 0", 0, 0);
        holds(b, "put 5 if not (wet or 0 < 1)", 0, 0);
        holds(b, "put 5 if not not not not not not 0 < 1", 5, 0);
        holds(b, "put 5 if ((((((0<1))))))and((((((1>0))))))", 5, 0);
        holds(b, "put 5 if 999 > 998", 5, 0);
        PainBank later = Check.banked("person bears 10 pain 9876543;account 0 500");
        Check.rule(later, "draw 1 if sunday;draw 2 if day > 3;put 9 if pain < 6");
        int[] due = {500, 500, 500, 500, 500, 503, 505, 505, 503};
        // Pains 9 8 7 6 5 4 3: from day 4 on 2 are drawn; on days 4, 5, 6 the pain is put; on day 6 one more is drawn.
        for (int n = 0; n < due.length; n++) {
            Check.due("ahead " + n, later.ahead(0, n), due[n]);
        }
    }

    private static void holds(PainBank b, String law, int put, int drawn) {
        int lines = law.isEmpty() ? 0 : law.split(";").length;
        Check.due("law " + law, Check.rule(b, law), lines);
        Check.due("count(3) of " + law, b.count(3), lines);
        Check.due("put by " + law, b.today(0, 0), put);
        Check.due("drawn by " + law, b.today(0, 1), drawn);
    }

    private static void wrongLawTexts() {
        PainBank b = new PainBank();
        Check.rule(b, "put 1;put 1");
        wrongLaw(b, ";", 0);
        wrongLaw(b, "puts 1", 0);
        wrongLaw(b, "put x", 4);
        wrongLaw(b, "put 0001", 4);
        wrongLaw(b, "put 1 if 1", 10);
        wrongLaw(b, "put 1 if 1000 > 1", 9);
        wrongLaw(b, "put 1 if 1 > 1000", 13);
        wrongLaw(b, "put 1 if 1 = 1", 11);
        wrongLaw(b, "put 1 if (1 + 1) > 1", 15);
        wrongLaw(b, "put 1 if wet > 1", 13);
        wrongLaw(b, "put 1 if pain + wet > 1", 16);
        wrongLaw(b, "put 1 if pain + > 1", 16);
        wrongLaw(b, "put 1 if wet and", 16);
        wrongLaw(b, "put 1 if wet wet", 13);
        wrongLaw(b, "put 1 if wet)", 12);
        wrongLaw(b, "put 1 if (wet;put 1", 13);
        wrongLaw(b, "put 1 if ()", 10);
        wrongLaw(b, "put 1 if not", 12);
        wrongLaw(b, "put 1 wet", 6);
        wrongLaw(b, "put 1 iff wet", 6);
        wrongLaw(b, "put 1 if (((((((wet)))))))", 15);
        wrongLaw(b, "put 1 if not (not (not (not wet", 24);
        wrongLaw(b, "put 1 if not wet and not not not not not not not wet", 45);
        wrongLaw(b, "vault 1", 0);
        Check.due("the law before stays", b.count(3), 2);
    }
}
