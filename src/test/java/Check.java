import java.nio.charset.StandardCharsets;
import java.util.NoSuchElementException;

/** What the tests share: feeding texts, comparing answers, counting those that are wrong. */
final class Check {
    /** What throwing(..) answers for a call that threw NoSuchElementException; no call answers it. */
    static final long THROWN = Long.MIN_VALUE;

    private static int wrong = 0;
    private static String sentence = "";

    interface Call {
        int answer();
    }

    private Check() {
    }

    /** What follows looks at this sentence of the document, which is printed with an answer that is wrong. */
    static void sentence(String words) {
        sentence = "'" + words + "': ";
    }

    static void is(String what, long got, long due) {
        if (got != due) {
            wrong++;
            System.out.println(sentence + what + " answered " + told(got) + ", due is " + told(due));
        }
    }

    static void is(String what, boolean got, boolean due) {
        is(what, got ? 1 : 0, due ? 1 : 0);
    }

    static void throwsNoSuch(String what, Call call) {
        is(what, throwing(call), THROWN);
    }

    static long throwing(Call call) {
        try {
            return call.answer();
        } catch (NoSuchElementException e) {
            return THROWN;
        }
    }

    private static String told(long answer) {
        return answer == THROWN ? "throws.NoSuchElementException" : String.valueOf(answer);
    }

    /** Puts the bytes of a text (signs 0 to 255) on the tape, behind what is there. */
    static void feed(HoursBank bank, String text) {
        byte[] bytes = text.getBytes(StandardCharsets.ISO_8859_1);
        int size = bank.now(9);
        for (int at = 0; at < bytes.length; at += 20) {
            bank.feed(number(bytes, at), number(bytes, at + 4), number(bytes, at + 8),
                number(bytes, at + 12), number(bytes, at + 16));
        }
        bank.end(size + bytes.length);
    }

    static int number(byte[] bytes, int at) {
        int number = 0;
        for (int i = at; i < at + 4; i++) {
            number = number << 8 | (i < bytes.length ? bytes[i] & 255 : 0);
        }
        return number;
    }

    static HoursBank bankOf(String text) {
        HoursBank bank = new HoursBank();
        feed(bank, text);
        int answer = bank.text();
        if (answer < 0) {
            is("text \"" + text + "\"", answer, 0);
        }
        return bank;
    }

    /** A text on a new object: its answer, its fault, and the tape that is empty then. */
    static void reads(String text, int due, int fault) {
        HoursBank bank = new HoursBank();
        feed(bank, text);
        String what = "\"" + text.replace("\n", "\\n") + "\"";
        is("text " + what, bank.text(), due);
        is("fault of " + what, bank.fault(), fault);
        is("tape behind " + what, bank.now(9), 0);
    }

    static void close(HoursBank bank, int days) {
        for (int i = 0; i < days; i++) {
            bank.endDay();
        }
    }

    static void finish() {
        System.out.println(wrong == 0 ? "all answers are as due" : wrong + " answers are not as due");
        if (wrong != 0) {
            System.exit(1);
        }
    }
}
