/** Promises 20 to 24, 37, 38, 42 and 43: days to come, plans, interest, peaks, the vault, trials and spans. */
public final class AheadTest {
    public static void main(String[] args) {
        ahead();
        fails();
        first();
        plan();
        cost();
        peak();
        needed();
        trial();
        span();
        Check.finish();
    }

    private static PainBank three() {
        return Check.banked("person bears 8 pain 3300009;person bears 5 pain 6111111;person bears 20 pain 0000000;"
            + "account 0 30;account 2 10;vault 999");
    }

    private static void ahead() {
        PainBank b = three();
        Check.tell(b, "rain 100;fall 100");
        int[] due = {30, 25, 20, 12, 4, 0, 0, 1, 0};
        for (int n = 0; n < due.length; n++) {
            Check.due("ahead(0, " + n + ")", b.ahead(0, n), due[n]);
        }
        Check.throwing("negative", IllegalArgumentException.class, () -> b.ahead(0, -1));
        Check.throwing("61", IllegalArgumentException.class, () -> b.ahead(0, 61));
        Check.throwing("nobody", IndexOutOfBoundsException.class, () -> b.ahead(3, 61));
        Check.due("nothing stays", b.count(4), 0);
        Check.due("the seed stays", b.seed(1), 1);
        Check.tell(b, "rain 0;fall 0");
        int at60 = b.ahead(1, 60);
        b.days(60);
        Check.due("as it comes", b.person(1, 1), at60);
        b.die(2);
        Check.due("the dead", b.ahead(2, 3), 0);
    }

    private static void fails() {
        PainBank b = Check.banked("person bears 9 pain 9999999;account 0 40;vault 52;rate 20");
        Check.rule(b, "put 1");
        Check.due("9 days", b.fails(9), false);
        // 50 and the interest of 10.
        Check.due("10 days", b.fails(10), true);
        Check.due("not yet", b.fails(0), false);
        Check.due("needed", b.needed(10), 60);
        Check.due("needed", b.needed(9), 49);
        Check.tell(b, "vault 60");
        Check.due("no more than it holds", b.fails(10), false);
        Check.due("then", b.fails(11), true);
        b.days(11);
        Check.due("failed", b.fails(0), true);
        Check.throwing("61", IllegalArgumentException.class, () -> b.fails(61) ? 1 : 0);
        Check.throwing("negative", IllegalArgumentException.class, () -> b.fails(-1) ? 1 : 0);
    }

    private static void first() {
        PainBank b = three();
        Check.due("none", b.first(false), -1);
        Check.due("none", b.first(true), -1);
        Check.rule(b, "put 1 if day < 1");
        // 1 feels 6 of weekday 0 again on the 8th day, 0 feels 9 on the 7th.
        Check.due("days", b.first(false), 7);
        Check.due("who", b.first(true), 0);
        Check.rule(b, "");
        Check.due("days", b.first(false), 1);
        Check.due("who", b.first(true), 1);
        Check.tell(b, "vault 39");
        Check.due("who when it fails: of several the least", b.first(true), 0);
        PainBank late = Check.banked("person bears 9 pain 0000000;account 0 100;vault 99999");
        Check.rule(late, "draw 10 if day > 59");
        Check.due("after 60 days", late.first(false), -1);
        Check.rule(late, "draw 10 if day > 58");
        Check.due("on the 60th", late.first(false), 60);
    }

    private static void plan() {
        PainBank b = three();
        // Pains of 0: 3, 3, 0, 0, 0, 0, 9.
        int[][] due = {{1, 33}, {2, 18}, {3, 12}, {4, 9}, {7, 6}, {8, 6}};
        for (int[] row : due) {
            Check.due("plan by " + row[0], b.plan(0, row[0], -1), row[1]);
        }
        int[] parts = {3, 3, 6, 6, 6, 6, 0, 0};
        for (int k = 0; k < parts.length; k++) {
            Check.due("part " + k, b.plan(0, 8, k), parts[k]);
        }
        Check.due("no such day", b.plan(0, 8, 8), -1);
        Check.due("no such day", b.plan(0, 8, -2), -1);
        Check.due("nothing", b.plan(1, 8, -1), 0);
        Check.due("nothing", b.plan(1, 8, 7), 0);
        Check.throwing("none", IllegalArgumentException.class, () -> b.plan(0, 0, 0));
        Check.throwing("41", IllegalArgumentException.class, () -> b.plan(0, 41, 99));
        Check.throwing("nobody", IndexOutOfBoundsException.class, () -> b.plan(-1, 41, 99));
        Check.tell(b, "account 1 99999");
        Check.due("much", b.plan(1, 1, -1), 100005);
        Check.due("much", b.plan(1, 1, 0), 99999);
        Check.due("40 days", b.plan(2, 40, -1), 1);
        Check.due("as early as can be", b.plan(2, 40, 9), 1);
        Check.due("as early as can be", b.plan(2, 40, 10), 0);
        b.days(6);
        Check.tell(b, "account 0 4");
        // From weekday 6 on: 9, 3, 3, 0.
        Check.due("from today on", b.plan(0, 4, -1), 4);
        Check.due("pain is above it", b.plan(0, 4, 0), 0);
        Check.due("part", b.plan(0, 4, 1), 1);
        Check.due("part", b.plan(0, 4, 3), 2);
    }

    private static void cost() {
        PainBank b = three();
        int[][] due = {{0, 0}, {9, 0}, {10, 1}, {19, 1}, {20, 2}, {60, 6}};
        for (int[] row : due) {
            Check.due("cost by " + row[0], b.cost(0, row[0]), row[1]);
        }
        Check.due("nothing", b.cost(1, 60), 0);
        Check.tell(b, "account 1 99990;rate 20;account 2 7;dead 2");
        Check.due("99999 at most", b.cost(1, 10), 9);
        Check.due("dead", b.cost(2, 60), 0);
        Check.throwing("61", IllegalArgumentException.class, () -> b.cost(2, 61));
        Check.throwing("negative", IllegalArgumentException.class, () -> b.cost(0, -1));
        Check.throwing("nobody", IndexOutOfBoundsException.class, () -> b.cost(3, -1));
        b.days(9);
        Check.tell(b, "account 0 30");
        Check.due("from today on", b.cost(0, 1), 6);
    }

    private static void peak() {
        PainBank b = three();
        // 1 may feel 5 at most; its account is drawn on weekdays 1 to 6.
        Check.due("most", b.peak(1, 3, false), 5);
        Check.due("when", b.peak(1, 3, true), 0);
        Check.rule(b, "draw 9 if day > 1");
        Check.due("most", b.peak(0, 3, false), 9);
        Check.due("when", b.peak(0, 3, true), 2);
        Check.due("most by less", b.peak(0, 2, false), 3);
        Check.due("most of nothing", b.peak(2, 1, false), 0);
        Check.due("when of nothing", b.peak(2, 1, true), 0);
        Check.throwing("none", IllegalArgumentException.class, () -> b.peak(0, 0, false));
        Check.throwing("61", IllegalArgumentException.class, () -> b.peak(0, 61, false));
        Check.throwing("nobody", IndexOutOfBoundsException.class, () -> b.peak(3, 0, false));
        b.die(0);
        Check.throwing("dead", IllegalStateException.class, () -> b.peak(0, 1, false));
        Check.throwing("dead, n first", IllegalArgumentException.class, () -> b.peak(0, 0, false));
    }

    private static void needed() {
        PainBank b = three();
        Check.due("0", b.needed(0), 0);
        Check.due("1", b.needed(1), 26);
        Check.due("60", b.needed(60) >= 26, true);
        Check.tell(b, "vault 0");
        Check.due("whatever it holds", b.needed(3), 26);
        Check.tell(b, "vault 26");
        Check.due("so it does not fail", b.fails(3), false);
        Check.tell(b, "vault 25");
        Check.due("with less it does", b.fails(3), true);
        Check.tell(b, "account 1 9;dead 1");
        Check.due("the dead one's counts", b.needed(1), 34);
        Check.throwing("61", IllegalArgumentException.class, () -> b.needed(61));
        Check.throwing("negative", IllegalArgumentException.class, () -> b.needed(-1));
    }

    private static void trial() {
        PainBank b = three();
        Check.tell(b, "rain 30;fall 60");
        Check.rule(b, "draw 3 if wet");
        Check.due("0 days", b.trial(0, false), 0);
        Check.due("0 days", b.trial(0, true), 40);
        b.seed(99);
        int times = b.trial(40, false);
        int sum = b.trial(40, true);
        Check.due("nothing stays", b.count(4) + b.count(12) + b.count(13) + b.count(14), 0);
        Check.due("as it comes", b.days(40), times);
        Check.due("as it comes", b.count(9), sum);
        Check.due("it was too much", times > 0, true);
        Check.throwing("41", IllegalArgumentException.class, () -> b.trial(41, false));
        Check.throwing("negative", IllegalArgumentException.class, () -> b.trial(-1, false));
    }

    private static void span() {
        PainBank b = three();
        Check.tell(b, "rain 30;fall 60");
        Check.rule(b, "draw 3 if wet");
        b.image();
        int least = 1000;
        int most = 0;
        for (int seed = 1; seed <= 6; seed++) {
            b.seed(seed);
            int times = b.days(9);
            least = Math.min(least, times);
            most = Math.max(most, times);
            b.back();
        }
        Check.due("fewest", b.span(9, false), least);
        Check.due("most", b.span(9, true), most);
        Check.due("they differ", least < most, true);
        Check.due("the seed stays", b.seed(1), 1);
        Check.due("0 days", b.span(0, true), 0);
        Check.throwing("41", IllegalArgumentException.class, () -> b.span(41, false));
        Check.throwing("negative", IllegalArgumentException.class, () -> b.span(-1, false));
    }
}
