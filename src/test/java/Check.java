import java.io.IOException;
import java.nio.charset.StandardCharsets;
import java.nio.file.Files;
import java.nio.file.Path;
import java.util.NoSuchElementException;
import java.util.Set;
import java.util.TreeSet;

/** What the tests share: texts fed to a bank, answers that are due, exceptions that are due. */
final class Check {
    private static int wrong = 0;
    private static int made = 0;
    private static int sentences = 0;
    private static String where = "";
    private static String document = "";
    private static final Set<Integer> PROMISES = new TreeSet<>();

    interface Call {
        long answer();
    }

    private Check() {
    }

    /** What follows tests this sentence of the document, and belongs to these promises. */
    static void sentence(String words, int... promises) {
        sentences++;
        where = "promise";
        for (int promise : promises) {
            PROMISES.add(promise);
            where += " " + promise;
        }
        where += " (" + words + "): ";
        // A test of words that the document does not say would prove nothing.
        due("the document's words", document().contains(words), true);
    }

    /** Each promise from 1 on has a sentence that was tested. */
    static void everyPromise(int last) {
        where = "";
        for (int promise = 1; promise <= last; promise++) {
            due("tests of promise " + promise, PROMISES.contains(promise), true);
        }
        System.out.println(sentences + " sentences");
    }

    private static String document() {
        if (document.isEmpty()) {
            try {
                document = Files.readString(Path.of("../shared/DOC.md")).replaceAll("\\s+", " ");
            } catch (IOException e) {
                document = "none";
            }
        }
        return document;
    }

    static void feed(PainBank bank, String text) {
        bank.end(0);
        byte[] bytes = text.getBytes(StandardCharsets.ISO_8859_1);
        for (int at = 0; at < bytes.length; at += 20) {
            bank.feed(four(bytes, at), four(bytes, at + 4), four(bytes, at + 8), four(bytes, at + 12), four(bytes, at + 16));
        }
        bank.end(bytes.length);
    }

    private static int four(byte[] bytes, int at) {
        int sum = 0;
        for (int i = at; i < at + 4; i++) {
            sum = sum << 8 | (i < bytes.length ? bytes[i] & 255 : 'x');
        }
        return sum;
    }

    /** A new bank of which these texts were told. */
    static PainBank banked(String... texts) {
        PainBank bank = new PainBank();
        for (String text : texts) {
            tell(bank, text);
        }
        return bank;
    }

    static int tell(PainBank bank, String text) {
        feed(bank, text);
        return bank.bank();
    }

    static int rule(PainBank bank, String text) {
        feed(bank, text);
        return bank.law();
    }

    static void due(String call, long got, long want) {
        made++;
        if (got != want) {
            wrong++;
            System.out.println(where + call + " answered " + got + ", due is " + want);
        }
    }

    static void due(String call, boolean got, boolean want) {
        due(call, got ? 1 : 0, want ? 1 : 0);
    }

    static void throwing(String call, Class<? extends RuntimeException> want, Call made) {
        Check.made++;
        String got;
        try {
            got = String.valueOf(made.answer());
        } catch (RuntimeException e) {
            if (e.getClass() == want) {
                return;
            }
            got = e.getClass().getName();
        }
        wrong++;
        System.out.println(where + call + " answered " + got + ", due is " + want.getName());
    }

    static void outside(String call, Call made) {
        throwing(call, IndexOutOfBoundsException.class, made);
    }

    static void none(String call, Call made) {
        throwing(call, IllegalArgumentException.class, made);
    }

    static void cannot(String call, Call made) {
        throwing(call, IllegalStateException.class, made);
    }

    static void noSuch(String call, Call made) {
        throwing(call, NoSuchElementException.class, made);
    }

    /** The text is a right one of the bank. */
    static void rightBank(PainBank bank, String text) {
        feed(bank, text);
        int before = bank.count(2);
        try {
            due("bank of '" + text + "'", bank.bank(), before + 1);
        } catch (RuntimeException e) {
            due("bank of '" + text + "' throws " + e, 1, 0);
        }
        due("fault of '" + text + "'", bank.fault(), -1);
    }

    /** The text is wrong at that byte. */
    static void wrongBank(PainBank bank, String text, int at) {
        feed(bank, text);
        none("bank of '" + text + "'", bank::bank);
        due("fault of '" + text + "'", bank.fault(), at);
    }

    static void rightLaw(PainBank bank, String text, int lines) {
        feed(bank, text);
        try {
            due("law of '" + text + "'", bank.law(), lines);
        } catch (RuntimeException e) {
            due("law of '" + text + "' throws " + e, 1, 0);
        }
        due("fault of '" + text + "'", bank.fault(), -1);
    }

    static void wrongLaw(PainBank bank, String text, int at) {
        feed(bank, text);
        none("law of '" + text + "'", bank::law);
        due("fault of '" + text + "'", bank.fault(), at);
    }

    static void finish() {
        System.out.println(made + " answers, " + wrong + " wrong");
        if (wrong > 0) {
            System.exit(1);
        }
    }
}
