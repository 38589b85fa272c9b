/** Promises 1 to 5: a new object, feed, end, text, fault. */
public final class TextTest {
    private static final String BANK = "bank 1 1 1 1;";

    public static void main(String[] args) {
        newObject();
        feed();
        end();
        goodTexts();
        noTokens();
        tokensThatCannotCome();
        numbersNotAsTold();
        edgesOfNumbers();
        oneTooMany();
        endOfText();
        cutTapes();
        longTexts();
        faultLeavesAll();
        newTextBeginsAnew();
        Check.finish();
    }

    private static void newObject() {
        HoursBank bank = new HoursBank();
        for (int what = 0; what <= 9; what++) {
            Check.is("a new now(" + what + ")", bank.now(what), 0);
        }
        Check.is("a new fault()", bank.fault(), 0);
        Check.is("a new undo()", bank.undo(), -1);
        Check.throwsNoSuch("a new worker(0, 0)", () -> bank.worker(0, 0));
        Check.is("a new text()", bank.text(), 0);
    }

    private static void feed() {
        HoursBank bank = new HoursBank();
        for (int i = 1; i <= 37; i++) {
            Check.is("feed " + i, bank.feed(i, i, i, i, i), 20 * i);
        }
        Check.is("feed to 760", bank.feed(0, 0, 0, 0, 0), -1);
        Check.is("bytes then", bank.now(9), 740);
        bank.end(721);
        Check.is("feed to 741", bank.feed(0, 0, 0, 0, 0), -1);
        Check.is("bytes behind 741", bank.now(9), 721);
        bank.end(720);
        Check.is("feed to 740", bank.feed(0, 0, 0, 0, 0), 740);
        // The highest byte comes first, and what an earlier end() cut off does not come again.
        HoursBank other = new HoursBank();
        other.feed(0x62616E6B, 0x20312032, 0x20332034, 0x3BFFFFFF, -1);
        other.end(13);
        Check.is("a text by its bytes", other.text(), 1);
        other.feed(0x62616E6B, 0x20312032, 0x20332034, 0x3BFFFFFF, -1);
        other.end(14);
        Check.is("byte 255", other.text(), -14);
    }

    private static void end() {
        HoursBank bank = new HoursBank();
        Check.is("end(0) of none", bank.end(0), true);
        Check.is("end(1) of none", bank.end(1), false);
        bank.feed(1, 2, 3, 4, 5);
        Check.is("end(21)", bank.end(21), false);
        Check.is("end(-1)", bank.end(-1), false);
        Check.is("end(least)", bank.end(Integer.MIN_VALUE), false);
        Check.is("end(most)", bank.end(Integer.MAX_VALUE), false);
        Check.is("bytes stay", bank.now(9), 20);
        Check.is("end(20)", bank.end(20), true);
        Check.is("end(7)", bank.end(7), true);
        Check.is("7 bytes", bank.now(9), 7);
        Check.is("end(8) of 7", bank.end(8), false);
        Check.is("feed behind 7", bank.feed(0, 0, 0, 0, 0), 27);
    }

    private static void goodTexts() {
        reads("", 0);
        reads("  \n ", 0);
        reads(BANK, 1);
        reads("bank1 1 1 1;", -1, 1);
        reads("\nbank\n1  1 1\n1 ;\n", 1);
        reads("bank 0001 1 1 1;worker 1 1;notice 1 0;worker 1 0;season 0 0 0 0 0 0 0 0 0;", 5);
        HoursBank bank = Check.bankOf("bank 1 2 3 4;season 2 5 1 2 3 4 5 6 7;worker 2 3;worker 0005 0006;");
        Check.is("workers", bank.now(1), 2);
        Check.is("seasons", bank.now(3), 1);
        Check.is("leave with zeros", bank.worker(1, 1), 6);
        Check.is("tape behind a text", bank.now(9), 0);
        Check.is("an empty text", bank.text(), 0);
        Check.is("workers behind an empty text", bank.now(1), 0);
        Check.is("seasons behind an empty text", bank.now(3), 0);
        Check.feed(bank, "bank 0 0 1 0;worker 1 1;");
        bank.text();
        Check.feed(bank, " ");
        Check.is("a text of a blank", bank.text(), 0);
        Check.is("workers behind a blank", bank.now(1), 0);
    }

    private static void noTokens() {
        reads("Bank 1 1 1 1;", -1, 1);
        reads("bank 1 1 1 1,", -13, 1);
        reads("bank\t1 1 1 1;", -5, 1);
        reads("bank\r1 1 1 1;", -5, 1);
        reads("bank 12345 1 1 1;", -6, 1);
        reads("bank 00001 1 1 1;", -6, 1);
        reads("bank 1a 1 1 1;", -6, 1);
        reads("bank 1 1 1 -1;", -12, 1);
        reads(BANK + "worker1 1;", -14, 1);
        reads(BANK + "\0", -14, 1);
        reads(BANK + (char) 255, -14, 1);
        reads(BANK + "{", -14, 1);
        reads(BANK + "`", -14, 1);
        reads(BANK + "/", -14, 1);
        reads(BANK + ":", -14, 1);
        // All small letters make words, a and z too.
        reads("bank 1za", -6, 1);
        reads("bank 1z 1a", -6, 1);
        reads("azank", -1, 1);
        reads(BANK + "aorker 1 1;", -14, 1);
    }

    private static void tokensThatCannotCome() {
        reads("worker 1 1;", -1, 1);
        reads("season", -1, 1);
        reads(";", -1, 1);
        reads("7", -1, 1);
        reads("ban 1 1 1 1;", -1, 1);
        reads("banks 1 1 1 1;", -1, 1);
        reads("bank;", -5, 1);
        reads("bank 1 1 1;", -11, 1);
        reads("bank 1 1 1 1 1;", -14, 1);
        reads("bank 1 1 bank 1;", -10, 1);
        reads(BANK + BANK, -14, 1);
        reads(BANK + ";", -14, 1);
        reads(BANK + " 1;", -15, 1);
        reads(BANK + "workers 1 1;", -14, 1);
        reads(BANK + "season 0 1 1 1 1 1 1 1;", -36, 1);
        reads(BANK + "season 0 1 1 1 1 1 1 1 1 1;", -39, 1);
        reads(BANK + "notice 1 1 1;", -25, 1);
        reads(BANK + "worker 1;", -22, 1);
    }

    private static void numbersNotAsTold() {
        reads("bank 1 1 0 1;", -10, 2);
        reads("bank 1 1 61 1;", -10, 2);
        reads(BANK + "season 364 0 1 1 1 1 1 1 1;", -21, 2);
        reads(BANK + "season 0 364 1 1 1 1 1 1 1;", -23, 2);
        reads(BANK + "season 5 4 1 1 1 1 1 1 1;", -23, 2);
        for (int i = 0; i < 7; i++) {
            String quarters = " 1".repeat(i) + " 97" + " 1".repeat(6 - i);
            reads(BANK + "season 5 5" + quarters + ";", -25 - 2 * i, 2);
        }
        reads(BANK + "notice 0 1;", -21, 2);
        reads(BANK + "notice 61 1;", -21, 2);
        reads(BANK + "notice 1 301;", -23, 2);
        reads(BANK + "worker 0 1;", -21, 2);
        reads(BANK + "worker 1000 1;", -21, 2);
        // The first along the text is the one that counts.
        reads("bank 1 1 0 1 ?;", -10, 2);
        reads("bank 1 ? 0 1;", -8, 1);
    }

    private static void edgesOfNumbers() {
        reads("bank 0 0 1 0;", 1);
        reads("bank 9999 9999 60 9999;", 1);
        reads(BANK + "season 0 363 0 96 0 96 0 96 0;season 363 363 1 1 1 1 1 1 1;", 3);
        reads(BANK + "notice 1 0;notice 60 300;", 3);
        reads(BANK + "worker 1 0;worker 999 9999;", 3);
    }

    private static void oneTooMany() {
        String season = "season 0 0 1 1 1 1 1 1 1;";
        reads(BANK + season.repeat(5), 6);
        reads(BANK + season.repeat(5) + "season", -1 - 13 - 5 * 25, 3);
        reads(BANK + "notice 1 1;".repeat(3), 4);
        reads(BANK + "notice 1 1;".repeat(3) + "\nnotice ?", -1 - 13 - 3 * 11 - 1, 3);
        reads(BANK + "worker 1 1;".repeat(4), 5);
        reads(BANK + "worker 1 1;".repeat(5), -1 - 13 - 4 * 11, 3);
        // A word with digits behind it is none of a sort.
        reads(BANK + "worker 1 1;".repeat(4) + "worker1", -1 - 13 - 4 * 11, 1);
    }

    private static void endOfText() {
        reads("bank", -5, 1);
        reads("bank 1 1 1 1", -13, 1);
        reads("bank 1 1 1 1 \n", -15, 1);
        reads(BANK + "worker 1 ", -23, 1);
    }

    /** What stood behind the tape's end before it was cut is not read. */
    private static void cutTapes() {
        cut("bank 1 1 1 1;", 3, -1);
        cut("bank 1 1 1 1;", 4, -5);
        cut("bank 1 1 1 12345;", 12, -13);
        cut("bank 1 1 1 1;", 12, -13);
        cut("bank 1 1 1 1;worker 1 1;", 13, 1);
        cut("bank 1 1 1 1;worker 1 1;", 14, -14);
    }

    private static void cut(String text, int n, int due) {
        HoursBank bank = new HoursBank();
        Check.feed(bank, text);
        bank.end(n);
        Check.is("\"" + text + "\" cut to " + n, bank.text(), due);
    }

    private static void longTexts() {
        reads(BANK + " ".repeat(687), 1);
        reads(BANK + " ".repeat(688), -701, 1);
        reads(BANK + " ".repeat(727), -701, 1);
        reads(" ".repeat(687) + BANK, 1);
        reads(" ".repeat(688) + BANK, -701, 1);
        reads(" ".repeat(700), 0);
        reads(" ".repeat(701), -701, 1);
        reads(" ".repeat(696) + "bank", -701, 1);
        // Tokens that begin ahead of 700 are read whole.
        reads(" ".repeat(698) + "bank", -701, 1);
        reads(" ".repeat(698) + "banks", -699, 1);
        reads(" ".repeat(698) + "ba", -699, 1);
        reads("bank" + " ".repeat(694) + "1234", -701, 1);
        reads("bank" + " ".repeat(694) + "12345", -699, 1);
        reads("bank 1 1" + " ".repeat(690) + "60", -701, 1);
        reads("bank 1 1" + " ".repeat(690) + "061", -699, 2);
        reads("bank 1 1" + " ".repeat(691) + "61", -700, 2);
        reads("bank 1 1" + " ".repeat(692) + "61", -701, 1);
        reads(BANK + " ".repeat(686) + "?" + " ".repeat(10), -700, 1);
        reads(BANK + " ".repeat(687) + "?", -701, 1);
        String workers = BANK + "worker 1 1;".repeat(4);
        reads(workers + " ".repeat(699 - workers.length()) + "worker", -700, 3);
        reads("bank 1 1 1 1" + " ".repeat(687) + ";", 1);
        reads("bank 1 1 1 1" + " ".repeat(688) + ";", -701, 1);
    }

    private static void faultLeavesAll() {
        HoursBank bank = Check.bankOf("bank 9 9 3 50;season 0 363 4 4 4 4 4 4 4;notice 9 50;worker 10 100;");
        bank.work(0, 6);
        bank.endDay();
        Check.feed(bank, "bank 1 1 1 1;worker 7 7;worker 8 8;bonk");
        Check.is("text with a fault", bank.text(), -36);
        Check.is("its fault", bank.fault(), 1);
        Check.is("tape behind a fault", bank.now(9), 0);
        Check.is("workers stay", bank.now(1), 1);
        Check.is("today stays", bank.now(0), 1);
        Check.is("balance stays", bank.worker(0, 0), 2);
        Check.is("window and limit stay", bank.room(0), 44);
        Check.is("seasons stay", bank.planned(0, 0, 6), 28);
        Check.is("notice, rate stay", bank.cost(0, 1, 14), 50);
        Check.is("leave stays", bank.worker(0, 1), 100);
        Check.is("undo stays", bank.undo(), 1);
        Check.is("fault stays told", bank.fault(), 1);
        Check.feed(bank, BANK);
        Check.is("text without a fault", bank.text(), 1);
        Check.is("no fault then", bank.fault(), 0);
    }

    private static void newTextBeginsAnew() {
        String text = "bank 5 5 2 5;season 0 363 4 4 4 4 4 4 4;notice 9 50;worker 10 100;";
        HoursBank bank = Check.bankOf(text);
        bank.plan(0, 3, 9);
        bank.book(0, 5, true);
        bank.work(0, 96);
        bank.endDay();
        bank.sick(0, true);
        bank.leave(0);
        Check.feed(bank, text);
        Check.is("the same text", bank.text(), 4);
        Check.is("an old undo", bank.undo(), -1);
        for (int what : new int[] {0, 4, 5, 6, 7, 8, 9}) {
            Check.is("now(" + what + ") anew", bank.now(what), 0);
        }
        for (int what = 0; what <= 11; what++) {
            Check.is("worker(0, " + what + ") anew", bank.worker(0, what), what == 1 ? 100 : 0);
        }
        for (int day : new int[] {0, 1, 3, 5}) {
            for (int what = 0; what <= 5; what++) {
                Check.is("day(0, " + day + ", " + what + ") anew", bank.day(0, day, what), what == 0 ? 4 : 0);
            }
        }
    }

    private static void reads(String text, int due) {
        reads(text, due, 0);
    }

    private static void reads(String text, int due, int fault) {
        Check.reads(text, due, fault);
    }
}
