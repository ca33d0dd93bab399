import java.util.NoSuchElementException;

/** Promises 44 to 50: the log, the seed, what is undone, the image, and counts. */
public final class MemoryTest {
    public static void main(String[] args) {
        log();
        seed();
        undo();
        forgets();
        image();
        counts();
        Check.finish();
    }

    private static PainBank three() {
        return Check.banked("person bears 8 pain 3300009;person bears 5 pain 6111111;person bears 20 pain 0000000;"
            + "account 0 30;account 2 10;vault 999");
    }

    private static void log() {
        PainBank b = three();
        Check.rule(b, "");
        Check.due("none", b.log(0, 0), -1);
        b.days(7);
        int[][] due = {{6, 0, 9, 8}, {0, 1, 6, 5}};
        for (int ago = 0; ago < 2; ago++) {
            for (int what = 0; what < 4; what++) {
                Check.due("log(" + ago + ", " + what + ")", b.log(ago, what), due[ago][what]);
            }
        }
        Check.due("without", b.log(2, 1), -1);
        Check.due("without", b.log(-1, 1), -1);
        Check.throwing("what 4", NoSuchElementException.class, () -> b.log(0, 4));
        Check.throwing("what -1, and without", NoSuchElementException.class, () -> b.log(-1, -1));
        Check.due("rows", b.count(13), 2);
        Check.due("led", b.led(0, false), 1);
        Check.due("most", b.led(0, true), 9);
        Check.due("led", b.led(2, false), 0);
        Check.due("most without", b.led(2, true), 0);
        Check.throwing("nobody", IndexOutOfBoundsException.class, () -> b.led(3, true));
        Check.rule(b, "draw 30 if day < 8");
        b.days(1);
        Check.due("most", b.led(0, true), 33);
        Check.rule(b, "");
        int rows = 2 + 2 + 1;
        Check.due("in all", b.count(12), 4);
        for (int i = 0; i < 5; i++) {
            b.days(56);
        }
        Check.due("in all", b.count(12), 4 + 2 * 40);
        Check.due("60 at most", b.count(13), 60);
        Check.due("the last", b.log(59, 0) >= 0, true);
        Check.due("no more", b.log(60, 0), -1);
        Check.due("led", b.led(0, false), 30);
        Check.due("the older are gone", b.led(0, true), 9);
        Check.due("led", b.led(1, false), rows * 6);
    }

    private static void seed() {
        PainBank b = three();
        Check.due("seed", b.seed(-5), 1);
        Check.due("seed", b.seed(0), -5);
        Check.due("no act", b.count(14), 0);
        b.put(0, 1);
        b.seed(7);
        b.undo();
        Check.due("as ahead of the act", b.seed(1), 0);
    }

    private static void undo() {
        PainBank b = three();
        Check.due("nothing", b.undo(), false);
        for (int i = 1; i <= 13; i++) {
            b.put(0, 1);
            Check.due("acts", b.count(14), Math.min(12, i));
        }
        for (int i = 12; i >= 1; i--) {
            Check.due("undo", b.undo(), true);
            Check.due("account", b.person(0, 1), 30 + i);
            Check.due("acts", b.count(14), i - 1);
        }
        Check.due("12 are remembered", b.undo(), false);
        b.days(60);
        Check.due("undo", b.undo(), true);
        Check.due("day", b.count(4), 0);
        Check.due("seed", b.seed(1), 1);
        each(b);
        Check.throwing("refused", IllegalArgumentException.class, () -> b.put(0, 0));
        Check.due("is no act", b.undo(), false);
    }

    private static void each(PainBank b) {
        b.draw(0, 3);
        b.cheque(0, 1, 4);
        b.owe(0, 1, 5);
        b.net();
        b.die(0);
        b.hear(1, 1);
        b.refound();
        b.days(3);
        Check.due("acts", b.count(14), 8);
        b.undo();
        b.undo();
        b.undo();
        Check.due("hears", b.person(1, 5), 0);
        b.undo();
        Check.due("alive", b.count(1), 7);
        b.undo();
        b.undo();
        Check.due("owed", b.owed(0, 1), 0);
        b.undo();
        Check.due("account", b.person(1, 1), 0);
        b.undo();
        Check.due("account", b.person(0, 1), 31);
    }

    private static void forgets() {
        PainBank b = three();
        b.put(0, 1);
        Check.feed(b, "wrong");
        Check.throwing("wrong", IllegalArgumentException.class, b::bank);
        Check.feed(b, "wrong");
        Check.throwing("wrong", IllegalArgumentException.class, b::law);
        Check.due("a wrong text leaves it", b.count(14), 1);
        Check.tell(b, "");
        Check.due("a text", b.undo(), false);
        b.put(0, 1);
        Check.rule(b, "");
        Check.due("a law", b.undo(), false);
        b.put(0, 1);
        Check.due("no image", b.back(), false);
        Check.due("it stays", b.count(14), 1);
        b.image();
        Check.due("it stays", b.count(14), 1);
        b.back();
        Check.due("going back", b.undo(), false);
    }

    private static void image() {
        PainBank b = three();
        b.seed(5);
        b.image();
        Check.rule(b, "put 1");
        Check.tell(b, "person bears 1 pain 1111111;vault 5;account 3 7");
        b.days(9);
        b.hear(0, 2);
        Check.due("back", b.back(), true);
        int[] due = {3, 7, 1, -1, 0, 999, 2, 0, 0, 40, 0, 0, 0, 0, 0};
        for (int what = 0; what < due.length; what++) {
            Check.due("count(" + what + ")", b.count(what), due[what]);
        }
        Check.due("seed", b.seed(5), 5);
        Check.due("hears", b.person(0, 5), 0);
        Check.tell(b, "person bears 1 pain 1111111");
        Check.due("new without what was", b.person(3, 1), 0);
        Check.due("back again", b.back(), true);
        Check.due("people", b.count(0), 3);
        b.put(0, 5);
        b.image();
        b.put(0, 5);
        b.undo();
        b.undo();
        b.back();
        Check.due("the later image", b.person(0, 1), 35);
        b.feed(0x72617465, 0x20782020, 0, 0, 0);
        b.end(6);
        Check.throwing("wrong", IllegalArgumentException.class, b::bank);
        b.feed(0x72617465, 0x20372020, 0, 0, 0);
        b.back();
        Check.due("fault is not gone back to", b.fault(), 5);
        Check.due("nor the tape", b.end(6), true);
        Check.due("bank", b.bank(), 2);
        Check.due("rate", b.count(6), 7);
    }

    private static void counts() {
        PainBank b = three();
        Check.tell(b, "forged 0 5;forged 2 1;rain 3;fall 4;rate 5;dead 1");
        Check.rule(b, "put 1;put 2 if wet");
        b.put(0, 2);
        int[] due = {3, 5, 2, 2, 0, 999, 5, 3, 4, 42, 6, 0, 0, 0, 1, -1};
        for (int what = 0; what < due.length; what++) {
            Check.due("count(" + what + ")", b.count(what), due[what]);
        }
    }
}
