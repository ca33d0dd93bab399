/** Promises 11 to 19: acts, each with its answers, its edges and what it refuses. */
public final class ActsTest {
    public static void main(String[] args) {
        put();
        draw();
        cheque();
        owe();
        net();
        die();
        hear();
        refound();
        days();
        draws();
        interest();
        lastDay();
        Check.finish();
    }

    private static PainBank three() {
        return Check.banked("person bears 8 pain 3300009;person bears 5 pain 6111111;person bears 20 pain 0000000;"
            + "account 0 30;account 2 10;forged 0 12;vault 99999");
    }

    private static PainBank failed() {
        PainBank b = three();
        Check.tell(b, "vault 0");
        b.days(1);
        Check.tell(b, "vault 99999;account 0 50;account 1 50");
        Check.due("failed", b.count(11), 1);
        return b;
    }

    private static void put() {
        PainBank b = three();
        Check.due("put", b.put(0, 1), 31);
        Check.due("put", b.put(0, 9999), 10030);
        Check.due("forged stays", b.person(0, 2), 12);
        Check.throwing("none", IllegalArgumentException.class, () -> b.put(0, 0));
        Check.throwing("negative", IllegalArgumentException.class, () -> b.put(0, -1));
        Check.throwing("too many", IllegalArgumentException.class, () -> b.put(0, 10000));
        Check.throwing("nobody", IndexOutOfBoundsException.class, () -> b.put(3, 0));
        Check.tell(b, "account 0 99990");
        Check.throwing("above 99999", IllegalArgumentException.class, () -> b.put(0, 10));
        Check.due("to 99999", b.put(0, 9), 99999);
        b.die(1);
        Check.throwing("dead, n first", IllegalArgumentException.class, () -> b.put(1, 0));
        Check.throwing("dead", IllegalStateException.class, () -> b.put(1, 1));
        Check.throwing("failed", IllegalStateException.class, () -> failed().put(0, 1));
        Check.due("acts", b.count(14), 2);
    }

    private static void draw() {
        PainBank b = three();
        Check.due("forged first", b.draw(0, 10), 0);
        Check.due("forged", b.person(0, 2), 2);
        Check.due("the rest of it", b.draw(0, 5), 3);
        Check.due("forged", b.person(0, 2), 0);
        Check.due("account", b.person(0, 1), 15);
        Check.throwing("none", IllegalArgumentException.class, () -> b.draw(0, 0));
        Check.throwing("more than there is", IllegalArgumentException.class, () -> b.draw(0, 16));
        Check.due("all", b.draw(0, 15), 15);
        Check.due("by hand it is never too much", b.count(12), 0);
        Check.throwing("nobody", IndexOutOfBoundsException.class, () -> b.draw(-1, 0));
        Check.tell(b, "account 1 5;dead 1");
        Check.throwing("dead", IllegalStateException.class, () -> b.draw(1, 5));
        Check.throwing("dead, n first", IllegalArgumentException.class, () -> b.draw(1, 6));
        Check.throwing("failed", IllegalStateException.class, () -> failed().draw(0, 1));
    }

    private static void cheque() {
        PainBank b = three();
        Check.due("cheque", b.cheque(0, 1, 18), 18);
        Check.due("forged stays", b.person(0, 2), 12);
        Check.due("cheque", b.cheque(0, 1, 5), 23);
        Check.due("forged above what is left goes", b.person(0, 2), 7);
        Check.due("with it", b.person(1, 2), 5);
        Check.throwing("one", IllegalArgumentException.class, () -> b.cheque(0, 0, 1));
        Check.throwing("none", IllegalArgumentException.class, () -> b.cheque(0, 1, 0));
        Check.throwing("more", IllegalArgumentException.class, () -> b.cheque(0, 1, 8));
        Check.throwing("nobody", IndexOutOfBoundsException.class, () -> b.cheque(0, 3, 1));
        Check.throwing("nobody twice", IndexOutOfBoundsException.class, () -> b.cheque(3, 3, 1));
        Check.tell(b, "account 2 99995");
        Check.throwing("above 99999", IllegalArgumentException.class, () -> b.cheque(0, 2, 5));
        Check.due("to 99999", b.cheque(0, 2, 4), 99999);
        Check.tell(b, "account 1 5;dead 1");
        Check.throwing("dead", IllegalStateException.class, () -> b.cheque(1, 0, 5));
        Check.throwing("other dead", IllegalStateException.class, () -> b.cheque(0, 1, 1));
        Check.throwing("failed", IllegalStateException.class, () -> failed().cheque(0, 1, 1));
    }

    private static void owe() {
        PainBank b = three();
        Check.due("owe", b.owe(0, 1, 999), 999);
        Check.due("more", b.owe(0, 1, 1), 1000);
        Check.throwing("one", IllegalArgumentException.class, () -> b.owe(0, 0, 1));
        Check.throwing("none", IllegalArgumentException.class, () -> b.owe(0, 1, 0));
        Check.throwing("too many", IllegalArgumentException.class, () -> b.owe(0, 1, 1000));
        Check.throwing("nobody", IndexOutOfBoundsException.class, () -> b.owe(0, -1, 0));
        Check.tell(b, "owes 0 1 9998;dead 0");
        Check.throwing("above 9999", IllegalStateException.class, () -> b.owe(0, 1, 2));
        Check.throwing("n first", IllegalArgumentException.class, () -> b.owe(0, 1, 1000));
        Check.due("the dead owe", b.owe(0, 1, 1), 9999);
        Check.due("failed", failed().owe(0, 1, 1), 1);
    }

    private static void net() {
        PainBank b = Check.banked("person bears 1 pain 0000000;person bears 1 pain 0000000;person bears 1 pain 0000000;person bears 1 pain 0000000;"
            + "person bears 1 pain 0000000;owes 0 1 5;owes 1 2 7;owes 2 0 3;owes 3 4 4");
        // Nets: -2, -2, 4, -4, 4. 3 pays 2 all 4; then 0 pays 4, then 1.
        Check.due("netted", b.netted(), 3);
        Check.due("net", b.net(), 3);
        Check.due("3 pays 2", b.owed(3, 2), 4);
        Check.due("0 pays 4", b.owed(0, 4), 2);
        Check.due("1 pays 4", b.owed(1, 4), 2);
        Check.due("before is gone", b.owed(3, 4) + b.owed(0, 1) + b.owed(1, 2) + b.owed(2, 0), 0);
        Check.due("undone", b.undo(), true);
        Check.due("as before", b.owed(3, 4), 4);
        // By the rule of the greatest more payments can stand than the fewest.
        PainBank more = Check.banked("person bears 1 pain 0000000;person bears 1 pain 0000000;person bears 1 pain 0000000;person bears 1 pain 0000000;"
            + "person bears 1 pain 0000000;owes 0 3 6;owes 1 4 4;owes 1 3 0;owes 2 4 5;owes 0 4 0");
        // Nets: -6, -4, -5, 6, 9.
        Check.due("fewest", more.netted(), 3);
        Check.due("net", more.net(), 4);
        Check.due("0 pays 4", more.owed(0, 4), 6);
        Check.due("2 pays 3", more.owed(2, 3), 5);
        Check.due("1 pays 4", more.owed(1, 4), 3);
        Check.due("1 pays 3", more.owed(1, 3), 1);
        PainBank none = three();
        Check.due("nothing", none.net(), 0);
        Check.due("an act all the same", none.count(14), 1);
        PainBank much = Check.banked("person bears 1 pain 0000000;person bears 1 pain 0000000;person bears 1 pain 0000000;person bears 1 pain 0000000;"
            + "owes 0 1 9999;owes 0 2 9999;owes 1 3 9999;owes 2 3 9999");
        Check.due("net", much.net(), 1);
        Check.due("a payment is as great as it must be", much.owed(0, 3), 19998);
        Check.throwing("no more is owed then", IllegalStateException.class, () -> much.owe(0, 3, 1));
    }

    private static void die() {
        PainBank b = three();
        Check.tell(b, "heir 0 2;heir 1 0;heir 2 1;forged 2 3");
        Check.due("die", b.die(0), 2);
        Check.due("account", b.person(2, 1), 40);
        Check.due("forged", b.person(2, 2), 15);
        Check.due("gone", b.person(0, 1), 0);
        Check.due("gone", b.person(0, 2), 0);
        Check.due("heir is dead", b.die(1), -1);
        Check.throwing("dead", IllegalStateException.class, () -> b.die(0));
        Check.throwing("nobody", IndexOutOfBoundsException.class, () -> b.die(3));
        Check.due("heir is dead", b.die(2), -1);
        Check.due("gone", b.count(9), 0);
        Check.due("nobody", b.count(1), 0);
        Check.due("no heir", three().die(0), -1);
        PainBank full = three();
        Check.tell(full, "account 0 99999;account 1 99999;forged 0 99999;forged 1 5;heir 0 1");
        Check.due("die", full.die(0), 1);
        Check.due("99999 at most", full.person(1, 1), 99999);
        Check.due("forged by no more", full.person(1, 2), 99999);
    }

    private static void hear() {
        PainBank b = three();
        Check.due("hear", b.hear(0, -1), 0);
        Check.due("not oneself, not who is not there", b.person(0, 5), 6);
        Check.due("what it was", b.hear(0, 4), 6);
        Check.due("hears", b.person(0, 5), 4);
        Check.due("nobody", b.hear(0, 1), 4);
        Check.due("hears", b.person(0, 5), 0);
        Check.throwing("no such person", IndexOutOfBoundsException.class, () -> b.hear(3, 0));
        Check.due("acts", b.count(14), 3);
    }

    private static void refound() {
        PainBank b = failed();
        Check.due("refound", b.refound(), true);
        Check.due("not failed", b.count(11), 0);
        Check.due("again", b.refound(), false);
        Check.due("put", b.put(0, 1), 51);
        Check.due("acts", b.count(14), 3);
    }

    private static void days() {
        PainBank b = three();
        Check.throwing("none", IllegalArgumentException.class, () -> b.days(0));
        Check.throwing("61", IllegalArgumentException.class, () -> b.days(61));
        Check.throwing("negative", IllegalArgumentException.class, () -> b.days(-1));
        Check.due("days", b.days(1), 0);
        Check.due("of 5 drawn 5 are forged", b.person(0, 2), 7);
        Check.due("account", b.person(0, 1), 25);
        Check.due("put", b.person(1, 1), 1);
        Check.due("day", b.count(4), 1);
        Check.due("one act", b.count(14), 1);
        Check.rule(b, "");
        // Without lines all is felt: 9 are above 8 on sundays, 6 above 5 on weekday 0.
        Check.due("days", b.days(14), 4);
        Check.due("log", b.log(0, 0), 14);
        Check.due("log", b.log(0, 1), 1);
        Check.due("log", b.log(1, 0), 13);
        Check.due("log", b.log(1, 1), 0);
        Check.due("in all", b.count(12), 4);
    }

    private static void draws() {
        PainBank b = Check.banked("person bears 9 pain 1111111;person bears 9 pain 1111111;rain 50;fall 50;vault 99999");
        Check.rule(b, "put 1 if wet;draw 1 if pain > 5");
        int seed = 1;
        int[] account = new int[2];
        for (int day = 0; day < 50; day++) {
            seed = 1103515245 * seed + 12345;
            boolean wet = (seed >>> 16 & 0x7fff) % 100 < 50;
            for (int p = 0; p < 2; p++) {
                seed = 1103515245 * seed + 12345;
                boolean falls = (seed >>> 16 & 0x7fff) % 100 < 50;
                account[p] += (wet ? 1 : 0) - (falls && account[p] > 0 ? 1 : 0);
            }
            if (day % 10 == 9) {
                for (int p = 0; p < 2; p++) {
                    account[p] += (account[p] * 2 + 99) / 100;
                }
            }
            b.days(1);
            Check.due("account 0 by draws", b.person(0, 1), account[0]);
            Check.due("account 1 by draws", b.person(1, 1), account[1]);
        }
        Check.due("seed", b.seed(7), seed);
        b.die(0);
        seed = 7;
        for (int i = 0; i < 2 * 60; i++) {
            seed = 1103515245 * seed + 12345;
        }
        b.days(60);
        Check.due("a draw for rain and for each one alive", b.seed(0), seed);
    }

    private static void interest() {
        PainBank b = Check.banked("person bears 9 pain 0000000;person bears 9 pain 0000000;account 0 101;account 1 100;forged 0 101;dead 1;vault 99999;rate 3");
        Check.rule(b, "");
        b.days(9);
        Check.due("not yet", b.person(0, 1), 101);
        b.days(1);
        Check.due("rounded up", b.person(0, 1), 105);
        Check.due("forged has none", b.person(0, 2), 101);
        Check.due("the dead have none", b.person(1, 1), 100);
        b.days(10);
        Check.due("again", b.person(0, 1), 109);
        Check.tell(b, "vault 208");
        Check.due("above by the dead one's, and felt but for what is forged", b.days(1), 0);
        Check.due("failed", b.count(11), 1);
        Check.due("0", b.person(0, 1), 0);
        Check.due("forged", b.count(10), 0);
        Check.due("the dead one's stays", b.count(9), 100);
    }

    private static void lastDay() {
        PainBank b = Check.banked("person bears 1 pain 1020304;account 0 100;rate 0;vault 99999");
        Check.rule(b, "draw 2 if day > 999+999+999+999+999+999+999+999+999+999+8");
        for (int i = 0; i < 166; i++) {
            b.days(60);
        }
        Check.tell(b, "rate 1");
        Check.due("day", b.count(4), 9960);
        Check.due("ahead", b.ahead(0, 60), aheadOfEnd(b.person(0, 1)));
        int due = aheadOfEnd(b.person(0, 1));
        b.days(60);
        Check.due("day", b.count(4), 9999);
        Check.due("account", b.person(0, 1), due);
        Check.due("log", b.log(0, 0), 9999);
        // 9999 is of weekday 3, and it is interest's day from now on each day.
        Check.due("cost", b.cost(0, 2), costOf(b.person(0, 1), 2));
        Check.due("today", b.today(0, 2), b.pain(0, 3) + 2);
        Check.due("plan by the pain of that day alone", b.plan(0, 2, 0), (b.person(0, 1) + 1) / 2);
    }

    private static int aheadOfEnd(int account) {
        for (int i = 0; i < 60; i++) {
            int day = Math.min(9999, 9960 + i);
            account -= day > 9998 ? Math.min(account, 2) : 0;
            account += (day + 1) % 10 == 0 ? (account + 99) / 100 : 0;
        }
        return account;
    }

    private static int costOf(int account, int days) {
        int sum = account;
        for (int i = 0; i < days; i++) {
            sum += (sum + 99) / 100;
        }
        return sum - account;
    }
}
