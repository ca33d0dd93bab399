/** Promises 25 to 36 and 39 to 41: debts, runs, sets of people, two who share. */
public final class CrowdTest {
    private static final String NOPAIN = "person bears 9 pain 0000000;";

    public static void main(String[] args) {
        netted();
        ring();
        strike();
        run();
        spark();
        feelings();
        saint();
        share();
        could();
        fewest();
        quiet();
        parted();
        rank();
        Check.finish();
    }

    private static PainBank many(int n, String rest) {
        PainBank b = new PainBank();
        Check.tell(b, NOPAIN.repeat(n) + "rate 2");
        Check.tell(b, rest);
        return b;
    }

    private static void netted() {
        Check.due("nothing", many(3, "").netted(), 0);
        Check.due("a ring", many(3, "owes 0 1 5;owes 1 2 5;owes 2 0 5").netted(), 0);
        Check.due("one", many(3, "owes 0 1 5").netted(), 1);
        Check.due("through", many(3, "owes 0 1 5;owes 1 2 5").netted(), 1);
        Check.due("two pairs", many(4, "owes 0 1 5;owes 2 3 6").netted(), 2);
        // Nets -6, -4, -5, 6, 9: 0 and 3, and the other three.
        Check.due("groups", many(5, "owes 0 3 6;owes 1 4 4;owes 2 4 5").netted(), 3);
        Check.due("no groups", many(4, "owes 0 3 1;owes 1 3 2;owes 2 3 4").netted(), 3);
        // Nets -1 -2 -4 -8 1 2 4 8: four pairs.
        Check.due("four pairs", many(8, "owes 0 7 1;owes 1 7 2;owes 2 7 4;owes 3 7 8;owes 7 4 1;owes 7 5 2;owes 7 6 4").netted(), 4);
    }

    private static void ring() {
        PainBank b = many(5, "owes 0 1 5;owes 1 2 5;owes 2 0 5;owes 1 3 1;owes 3 1 1;owes 4 0 9");
        int[] due = {3, 2, 3, 2, -1};
        for (int p = 0; p < 5; p++) {
            Check.due("ring(" + p + ")", b.ring(p), due[p]);
        }
        Check.throwing("nobody", IndexOutOfBoundsException.class, () -> b.ring(5));
        Check.throwing("nobody", IndexOutOfBoundsException.class, () -> b.ring(-1));
        PainBank round = many(8, "owes 0 1 5;owes 1 2 5;owes 2 3 5;owes 3 4 1;owes 4 5 1;owes 5 6 9;owes 6 7 1;owes 7 0 1");
        Check.due("all", round.ring(3), 8);
    }

    private static void strike() {
        PainBank b = many(3, "owes 0 1 5;owes 1 0 3;owes 1 2 7;owes 2 1 9;owes 0 2 4");
        Check.due("strike", b.strike(), 10);
        Check.due("nothing", many(2, "").strike(), 0);
    }

    private static void run() {
        PainBank b = many(5, "account 0 10;account 1 20;account 3 40;account 4 80;hears 1 0;hears 2 1;hears 3 2;hears 4 1");
        Check.due("run", b.run(0, false), 1 | 2 | 16);
        Check.due("sum", b.run(0, true), 110);
        Check.due("who has nothing may begin", b.run(2, false), 4 | 8);
        Check.due("sum", b.run(2, true), 40);
        Check.due("reserve", b.reserve(), 110);
        b.die(1);
        Check.due("the dead do not run", b.run(0, false), 1);
        Check.throwing("dead", IllegalStateException.class, () -> b.run(1, false));
        Check.throwing("nobody", IndexOutOfBoundsException.class, () -> b.run(5, true));
        Check.due("reserve", b.reserve(), 80);
    }

    private static void spark() {
        int[][] due = {{0, 1}, {10, 2}, {20, 4}, {39, 4}, {40, 8}, {69, 8}, {70, 9}, {80, 10}, {90, 11}, {99, 11}, {100, -1}};
        for (int[] row : due) {
            sparkOf(row[0], row[1]);
        }
    }

    private static void sparkOf(int holds, int spark) {
        PainBank fresh = many(4, "account 0 10;account 1 20;account 2 40;account 3 30;hears 2 3;vault " + holds);
        Check.due("spark of " + holds, fresh.spark(), spark);
        Check.tell(fresh, "dead 3");
        Check.due("only those alive", fresh.spark() >= 8, false);
    }

    private static void feelings() {
        StringBuilder text = new StringBuilder("vault 9");
        int[] due = {0, 0, 1, 2, 2, 3, 3, 3, 3};
        for (int n = 0; n <= 8; n++) {
            if (n > 0) {
                text.append(";account ").append(n - 1).append(" 1");
            }
            Check.due("feelings of " + n, many(8, text.toString()).feelings(), due[n]);
        }
        Check.due("only those alive", many(8, text + ";dead 0;dead 1;dead 2;dead 3").feelings(), 2);
    }

    private static void saint() {
        PainBank b = Check.banked("person bears 9 pain 1000000;person bears 9 pain 2000000;person bears 9 pain 3000000;person bears 9 pain 9000001");
        Check.due("3", b.saint(3, 0, false), 2);
        Check.due("3 sure", b.saint(3, 0, true), 0);
        Check.due("5", b.saint(5, 0, false), 1);
        Check.due("5 sure", b.saint(5, 0, true), 6);
        Check.due("12", b.saint(12, 0, false), 2);
        Check.due("12 sure", b.saint(12, 0, true), 8);
        Check.due("15 sure", b.saint(15, 0, true), 15);
        Check.due("16", b.saint(16, 0, false), 0);
        Check.due("16 sure", b.saint(16, 0, true), 0);
        Check.due("-1", b.saint(-1, 0, false), 0);
        Check.due("0", b.saint(0, 3, false), 16);
        Check.due("1", b.saint(1, 6, false), 8);
        Check.due("1 sure", b.saint(1, 6, true), 8);
        b.die(3);
        Check.due("the dead are people", b.saint(1, 6, true), 8);
        Check.throwing("weekday 7", IndexOutOfBoundsException.class, () -> b.saint(0, 7, true));
        Check.throwing("weekday -1", IndexOutOfBoundsException.class, () -> b.saint(0, -1, false));
        PainBank full = new PainBank();
        Check.tell(full, "person bears 9 pain 9999999;".repeat(8) + "rate 2");
        Check.due("all eight", full.saint(72, 0, true), 255);
        Check.due("four of eight", full.saint(36, 0, false), 70);
    }

    private static void share() {
        PainBank b = Check.banked("person bears 8 pain 3900000;person bears 6 pain 2910000;person bears 1 pain 9999999;person bears 1 pain 9999999;account 0 4;account 1 5;account 2 1");
        Check.due("share", b.share(0, 1), true);
        Check.due("shares", b.shares(0, 1), 1);
        Check.tell(b, "account 0 5");
        Check.due("one more", b.share(0, 1), false);
        // 9 on the first day, nothing on the second, whose pains are 18, then 13.
        Check.due("third day", b.shares(1, 0), 3);
        Check.tell(b, "account 0 17");
        Check.due("third day", b.shares(0, 1), 3);
        Check.tell(b, "account 0 18");
        Check.due("fourth day", b.shares(0, 1), 4);
        Check.due("never", b.shares(2, 3), -1);
        Check.due("pains alone", b.share(2, 3), false);
        Check.tell(b, "account 0 0;account 1 0");
        Check.due("nothing", b.shares(0, 1), 0);
        Check.due("share", b.share(0, 1), true);
        Check.throwing("one", IllegalArgumentException.class, () -> b.share(0, 0) ? 1 : 0);
        Check.throwing("one", IllegalArgumentException.class, () -> b.shares(0, 0));
        Check.throwing("nobody", IndexOutOfBoundsException.class, () -> b.share(4, 4) ? 1 : 0);
        Check.throwing("nobody", IndexOutOfBoundsException.class, () -> b.shares(0, -1));
        b.die(1);
        Check.throwing("dead", IllegalStateException.class, () -> b.share(0, 1) ? 1 : 0);
        Check.throwing("dead", IllegalStateException.class, () -> b.shares(1, 0));
        Check.throwing("dead and one", IllegalArgumentException.class, () -> b.shares(1, 1));
        PainBank slow = many(2, "account 0 720");
        Check.due("40 days", slow.shares(0, 1), 40);
        Check.tell(slow, "account 0 721");
        Check.due("41 days", slow.shares(0, 1), -1);
    }

    private static void could() {
        PainBank b = Check.banked("person bears 8 pain 3000000;person bears 5 pain 0000000;person bears 20 pain 1000000;account 0 5;account 1 6;account 2 20");
        Check.due("could", b.could(0), 7);
        Check.due("could", b.could(1), 4);
        Check.due("could", b.could(2), 0);
        b.die(1);
        Check.due("only those alive", b.could(0), 5);
        Check.due("of nothing", b.could(1), 5);
        Check.throwing("nobody", IndexOutOfBoundsException.class, () -> b.could(3));
    }

    private static void fewest() {
        String three = "person bears 8 pain 3000000;person bears 5 pain 9000000;person bears 6 pain 1000000;account 0 ";
        int[][] due = {{0, 0}, {1, 1}, {5, 1}, {6, 5}, {10, 5}, {11, -1}};
        for (int[] row : due) {
            Check.due("fewest of " + row[0], Check.banked(three + row[0]).fewest(), row[1]);
        }
        Check.due("only those alive", Check.banked(three + "3;dead 0").fewest(), 4);
        Check.due("all accounts", Check.banked(three + "6;dead 0").fewest(), -1);
    }

    private static void quiet() {
        PainBank b = Check.banked("person bears 8 pain 3120042;person bears 8 pain 1299912");
        // Together: 4, 3, 11, 9, 9, 5, 4.
        Check.due("quiet", b.quiet(false), 1);
        Check.due("much", b.quiet(true), 3);
        b.die(1);
        Check.due("only those alive, of several the least", b.quiet(false), 3);
        Check.due("much", b.quiet(true), 0);
        b.die(0);
        Check.due("nobody", b.quiet(false) + b.quiet(true), 0);
    }

    private static void parted() {
        PainBank b = many(4, "account 0 7;account 1 5;account 2 4;account 3 1");
        Check.due("by", b.parted(false), 1);
        // 8 and 9: 0 and 3, or 1 and 2.
        Check.due("least", b.parted(true), 6);
        b.die(0);
        Check.due("only those alive", b.parted(false), 0);
        Check.due("part", b.parted(true), 2);
        Check.due("one alone", many(1, "account 0 7").parted(false), 7);
        Check.due("an empty part", many(1, "account 0 7").parted(true), 0);
        Check.due("nothing", many(3, "").parted(true), 0);
    }

    private static void rank() {
        PainBank b = Check.banked("person bears 9 pain 3000000;person bears 9 pain 5000000;person bears 9 pain 5000000;person bears 9 pain 9000000");
        Check.due("rank", b.rank(0), 3);
        Check.due("rank", b.rank(1), 1);
        Check.due("rank", b.rank(3), 0);
        Check.tell(b, "account 0 9");
        Check.due("by what is drawn too", b.rank(0), 0);
        b.die(3);
        Check.due("only those alive", b.rank(1), 1);
        Check.throwing("dead", IllegalStateException.class, () -> b.rank(3));
        Check.throwing("nobody", IndexOutOfBoundsException.class, () -> b.rank(4));
    }
}
