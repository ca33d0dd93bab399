import java.nio.charset.StandardCharsets;

/** What the tests share: texts fed to a bank, answers that are due, exceptions that are due. */
final class Check {
    private static int wrong = 0;
    private static int made = 0;

    interface Call {
        long answer();
    }

    private Check() {
    }

    static void feed(PainBank bank, String text) {
        bank.end(0);
        byte[] bytes = text.getBytes(StandardCharsets.ISO_8859_1);
        for (int at = 0; at < bytes.length; at += 20) {
            bank.feed(four(bytes, at), four(bytes, at + 4), four(bytes, at + 8), four(bytes, at + 12), four(bytes, at + 16));
        }
        bank.end(bytes.length);
    }

    private static int four(byte[] bytes, int at) {
        int sum = 0;
        for (int i = at; i < at + 4; i++) {
            sum = sum << 8 | (i < bytes.length ? bytes[i] & 255 : 'x');
        }
        return sum;
    }

    /** A new bank of which these texts were told. */
    static PainBank banked(String... texts) {
        PainBank bank = new PainBank();
        for (String text : texts) {
            tell(bank, text);
        }
        return bank;
    }

    static int tell(PainBank bank, String text) {
        feed(bank, text);
        return bank.bank();
    }

    static int rule(PainBank bank, String text) {
        feed(bank, text);
        return bank.law();
    }

    static void due(String call, long got, long want) {
        made++;
        if (got != want) {
            wrong++;
            System.out.println(call + " answered " + got + ", due is " + want);
        }
    }

    static void due(String call, boolean got, boolean want) {
        due(call, got ? 1 : 0, want ? 1 : 0);
    }

    static void throwing(String call, Class<? extends RuntimeException> want, Call made) {
        Check.made++;
        String got;
        try {
            got = String.valueOf(made.answer());
        } catch (RuntimeException e) {
            if (e.getClass() == want) {
                return;
            }
            got = e.getClass().getName();
        }
        wrong++;
        System.out.println(call + " answered " + got + ", due is " + want.getName());
    }

    static void finish() {
        System.out.println(made + " answers, " + wrong + " wrong");
        if (wrong > 0) {
            System.exit(1);
        }
    }
}
