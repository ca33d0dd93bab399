import java.util.NoSuchElementException;

/** Promises 7 to 10: what is told of a person, pains, what is owed, and today. */
public final class PeopleTest {
    public static void main(String[] args) {
        told();
        heirs();
        pains();
        owed();
        today();
        todayWhenItFails();
        todayAtTheBrim();
        Check.finish();
    }

    private static PainBank four() {
        return Check.banked("person bears 8 pain 3390009;person bears 5 pain 6111111;person bears 20 pain 0000000;"
            + "person bears 99 pain 1000000;account 0 30;account 1 7;account 2 10;forged 0 4;heir 0 1;heir 1 2;heir 2 0;heir 3 1;hears 1 0",
            "owes 0 1 5;owes 1 2 7;owes 2 0 3;hears 1 3");
    }

    private static void told() {
        PainBank b = four();
        int[] due = {8, 30, 4, 1, 1, 0, -2, 2, 10, 7};
        for (int what = 0; what < due.length; what++) {
            Check.due("person(0, " + what + ")", b.person(0, what), due[what]);
        }
        Check.due("hears", b.person(1, 5), 9);
        Check.due("net", b.person(2, 6), 4);
        Check.due("worst day of no pain", b.person(2, 7), 0);
        Check.throwing("person -1", IndexOutOfBoundsException.class, () -> b.person(-1, 0));
        Check.throwing("person 4", IndexOutOfBoundsException.class, () -> b.person(4, 99));
        Check.throwing("what 10", NoSuchElementException.class, () -> b.person(0, 10));
        Check.throwing("what -1", NoSuchElementException.class, () -> b.person(0, -1));
        b.die(0);
        Check.due("alive", b.person(0, 3), 0);
    }

    private static void heirs() {
        PainBank b = four();
        Check.due("will of 1: of 0 and 3", b.person(1, 8), 30);
        Check.due("will of 3", b.person(3, 8), 0);
        Check.due("heirs round", b.person(3, 9), 7);
        Check.due("heirs round to oneself", b.person(1, 9), 7);
        Check.tell(b, "account 3 5");
        Check.due("will of 1: of 0 and 3", b.person(1, 8), 35);
        Check.tell(b, "dead 3");
        Check.due("the dead do not die now", b.person(1, 8), 30);
        PainBank line = Check.banked("person bears 1 pain 0000000;person bears 1 pain 0000000;person bears 1 pain 0000000;heir 0 2");
        Check.due("heirs", line.person(0, 9), 4);
        Check.due("no heirs", line.person(2, 9), 0);
        Check.due("no heir", line.person(1, 4), -1);
    }

    private static void pains() {
        PainBank b = four();
        Check.due("pain", b.pain(0, 2), 9);
        Check.due("pain", b.pain(3, 0), 1);
        Check.throwing("no person", IndexOutOfBoundsException.class, () -> b.pain(4, 0));
        Check.throwing("no weekday", IndexOutOfBoundsException.class, () -> b.pain(0, 7));
        Check.throwing("no weekday", IndexOutOfBoundsException.class, () -> b.pain(0, -1));
    }

    private static void owed() {
        PainBank b = four();
        Check.due("owed", b.owed(1, 2), 7);
        Check.due("owed", b.owed(2, 1), 0);
        Check.throwing("both one", IllegalArgumentException.class, () -> b.owed(1, 1));
        Check.throwing("no other", IndexOutOfBoundsException.class, () -> b.owed(1, 4));
        Check.throwing("none twice", IndexOutOfBoundsException.class, () -> b.owed(-1, -1));
    }

    private static void today() {
        PainBank b = four();
        // 0: pain 3, bears 8: 5 are drawn, of which 4 are forged.
        Check.due("put", b.today(0, 0), 0);
        Check.due("drawn", b.today(0, 1), 5);
        Check.due("feels", b.today(0, 2), 4);
        // 1: pain 6, bears 5.
        Check.due("put", b.today(1, 0), 1);
        Check.due("drawn", b.today(1, 1), 0);
        Check.due("feels", b.today(1, 2), 5);
        Check.due("the account at most", b.today(2, 1), 10);
        Check.due("nothing stays", b.person(0, 1), 30);
        Check.due("nothing stays", b.count(4), 0);
        Check.throwing("what 3", NoSuchElementException.class, () -> b.today(0, 3));
        Check.throwing("what -1", NoSuchElementException.class, () -> b.today(0, -1));
        Check.throwing("no person", IndexOutOfBoundsException.class, () -> b.today(4, 3));
        b.die(3);
        Check.throwing("dead ahead of what", IllegalStateException.class, () -> b.today(3, 3));
        Check.tell(b, "rain 100;fall 100");
        Check.rule(b, "put 1 if wet;put 2 if pain > 3;draw 1 if account > 29");
        Check.due("no rain, no falls", b.today(0, 0), 0);
        Check.due("drawn and put", b.today(0, 1), 1);
        Check.due("put of 1", b.today(1, 0), 2);
    }

    private static void todayWhenItFails() {
        PainBank b = four();
        Check.tell(b, "vault 30");
        // After the day: 25, 8, 0, 0 are above 30; nothing of 0's is forged any more.
        Check.due("feels", b.today(0, 2), 4 + 25);
        Check.due("feels", b.today(1, 2), 5 + 8);
        Check.due("put", b.today(1, 0), 1);
        b.days(1);
        Check.due("failed", b.count(11), 1);
        Check.tell(b, "account 2 10");
        Check.due("nothing is drawn when failed", b.today(2, 1), 0);
        Check.due("pain alone", b.today(2, 2), 0);
        Check.due("nothing is put when failed", b.today(1, 0), 0);
    }

    private static void todayAtTheBrim() {
        PainBank b = Check.banked("person bears 3 pain 9999999;account 0 99998;vault 99999;rate 20");
        Check.due("put", b.today(0, 0), 6);
        // 99998 and 6 are 5 too many: these are felt at once.
        Check.due("feels", b.today(0, 2), 3 + 5);
        Check.due("days", b.days(1), 1);
        Check.due("account", b.person(0, 1), 99999);
        Check.due("log", b.log(0, 2), 8);
        Check.due("days to the 9th", b.days(8), 8);
        Check.due("interest to 99999 is not felt", b.today(0, 2), 9);
        b.days(1);
        Check.due("account", b.person(0, 1), 99999);
    }
}
