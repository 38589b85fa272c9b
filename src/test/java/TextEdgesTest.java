/** The edges that the document names for texts and in promises 1 to 5, sentence by sentence. */
public final class TextEdgesTest {
    private static final String BANK = "bank 1 1 1 1;";
    private static final String SEASON = "season 0 0 1 1 1 1 1 1 1;";
    private static final String NOTICE = "notice 1 1;";
    private static final String WORKER = "worker 1 1;";

    public static void main(String[] args) {
        blanks();
        words();
        numbers();
        tokensGoOn();
        mostBytes();
        linesEnd();
        firstLine();
        bankNumbers();
        seasonDays();
        seasonQuarters();
        seasonsAtMost();
        noticeNumbers();
        noticesAtMost();
        workerNumbers();
        workersAtMost();
        workersFromZero();
        firstFaultAlong();
        leastFaultOfOneToken();
        placeOfNoToken();
        placeOfTheEnd();
        placeBeyond700();
        faultAheadOf700();
        tokensReadWhole();
        placeOfNumber();
        placeOfOneMore();
        newObject();
        feedHighestFirst();
        feedBehind();
        feedTooMuch();
        endFirstBytes();
        endNotSoMany();
        endBelowZero();
        tapeEmptyThen();
        emptyText();
        linesTold();
        faultLeavesAll();
        faultOfTheLatest();
        faultAheadOfAny();
        newTextBeginsAnew();
        Check.finish();
    }

    // ---- tokens

    private static void blanks() {
        Check.sentence("TOKENS of a text, with blanks (32, 10) between them or not");
        reads(" \n bank\n1  1 \n1\n\n1 ; \n", 1);
        reads("bank 1 1 1 1;worker 1 1;", 2);
        reads("bank 1 1 1 1 ;\nworker 1 1\n;", 2);
        for (int sign = 0; sign < 256; sign++) {
            boolean isRun = sign >= 'a' && sign <= 'z' || sign >= '0' && sign <= '9';
            String text = "bank" + (char) sign + "1 1 1 1;";
            if (sign == 32 || sign == 10) {
                reads(text, 1);
            } else {
                Check.reads(text, isRun ? -1 : -5, 1);
            }
        }
    }

    private static void words() {
        Check.sentence("WORDS: small letters");
        Check.reads("Bank 1 1 1 1;", -1, 1);
        Check.reads("BANK 1 1 1 1;", -1, 1);
        Check.reads("bank 1 1 1 1;workeR 1 1;", -14, 1);
        Check.reads("ban", -1, 1);
        Check.reads("banks 1 1 1 1;", -1, 1);
        Check.reads("ank 1 1 1 1;", -1, 1);
        Check.reads("hank 1 1 1 1;", -1, 1);
        Check.reads("bang 1 1 1 1;", -1, 1);
    }

    private static void numbers() {
        Check.sentence("NUMBERS: 1 to 4 digits");
        reads("bank 1 1 1 1;", 1);
        reads("bank 0001 0001 0001 0001;", 1);
        Check.reads("bank 00001 1 1 1;", -6, 1);
        Check.reads("bank 1 1 1 00001;", -12, 1);
        Check.reads("bank 10000 1 1 1;", -6, 1);
        Check.reads("bank 4294967297 1 1 1;", -6, 1);
        Check.reads("bank 18446744073709551617 1 1 1;", -6, 1);
        Check.reads("bank " + "0".repeat(600) + "1 1 1 1;", -6, 1);
        Check.reads("bank -1 1 1 1;", -6, 1);
        Check.reads("bank +1 1 1 1;", -6, 1);
    }

    private static void tokensGoOn() {
        Check.sentence("A WORD, NUMBER goes on as long as small letters and digits do");
        Check.reads("bank1 1 1 1;", -1, 1);
        Check.reads("1bank 1 1 1;", -1, 1);
        Check.reads("bank 1a 1 1 1;", -6, 1);
        Check.reads("bank a1 1 1 1;", -6, 1);
        Check.reads("bank 1 1 1 1worker 1 1;", -12, 1);
        Check.reads(BANK + WORKER.repeat(4) + "worker1 1;", -58, 1);
    }

    // ---- lines and their numbers

    private static void mostBytes() {
        Check.sentence("A TEXT has at most 700 bytes");
        reads(BANK + " ".repeat(686), 1);
        reads(BANK + " ".repeat(687), 1);
        Check.reads(BANK + " ".repeat(688), -701, 1);
        reads(" ".repeat(687) + BANK, 1);
        Check.reads(" ".repeat(688) + BANK, -701, 1);
        reads(" ".repeat(700), 0);
        Check.reads(" ".repeat(701), -701, 1);
        Check.reads(" ".repeat(740), -701, 1);
    }

    private static void linesEnd() {
        Check.sentence("A TEXT has at most 700 bytes: { LINE ; }.");
        reads("", 0);
        Check.reads(";", -1, 1);
        Check.reads(BANK + ";", -14, 1);
        Check.reads("bank 1 1 1 1", -13, 1);
        Check.reads("bank 1 1 1 1 worker 1 1;", -14, 1);
        Check.reads("bank 1 1 1;", -11, 1);
        Check.reads("bank 1 1 1 1 1;", -14, 1);
        Check.reads(BANK + "season 0 0 1 1 1 1 1 1;", -36, 1);
        Check.reads(BANK + "season 0 0 1 1 1 1 1 1 1 1;", -39, 1);
        Check.reads(BANK + "notice 1;", -22, 1);
        Check.reads(BANK + "notice 1 1 1;", -25, 1);
        Check.reads(BANK + "worker 1;", -22, 1);
        Check.reads(BANK + "worker 1 1 1;", -25, 1);
    }

    private static void firstLine() {
        Check.sentence("The first LINE: 'bank'");
        Check.reads(SEASON, -1, 1);
        Check.reads(NOTICE + BANK, -1, 1);
        Check.reads(WORKER + BANK, -1, 1);
        Check.reads("desk 1 1 1 1;", -1, 1);
        Check.reads("1", -1, 1);
        Check.reads(BANK + BANK, -14, 1);
        Check.reads(BANK + WORKER + "bank", -25, 1);
    }

    private static void bankNumbers() {
        Check.sentence("LOW HIGH WINDOW LIMIT (0 to 9999, 0 to 9999, 1 to 60, 0 to 9999)");
        bounds("", "bank 5 5 5 5;", 0, 0, 9999);
        bounds("", "bank 5 5 5 5;", 1, 0, 9999);
        bounds("", "bank 5 5 5 5;", 2, 1, 60);
        bounds("", "bank 5 5 5 5;", 3, 0, 9999);
    }

    private static void seasonDays() {
        Check.sentence("DAYS, FROM no later than TO");
        bounds(BANK, "season 5 363 1 1 1 1 1 1 1;", 0, 0, 363);
        bounds(BANK, "season 0 5 1 1 1 1 1 1 1;", 1, 0, 363);
        bounds(BANK, "season 100 200 1 1 1 1 1 1 1;", 1, 100, 363);
        bounds(BANK, "season 363 363 1 1 1 1 1 1 1;", 1, 363, 363);
        // FROM is not at fault for a TO that comes behind it.
        Check.reads(BANK + "season 200 100 1 1 1 1 1 1 1;", -25, 2);
        Check.reads(BANK + "season 364 363 1 1 1 1 1 1 1;", -21, 2);
    }

    private static void seasonQuarters() {
        Check.sentence("0 to 96 each");
        for (int at = 2; at < 9; at++) {
            bounds(BANK, "season 3 9 1 1 1 1 1 1 1;", at, 0, 96);
        }
    }

    private static void seasonsAtMost() {
        Check.sentence("5 at most");
        reads(BANK + SEASON.repeat(5), 6);
        Check.reads(BANK + SEASON.repeat(6), -139, 3);
    }

    private static void noticeNumbers() {
        Check.sentence("'notice' DAYS PERCENT (1 to 60; 0 to 300");
        bounds(BANK, "notice 5 5;", 0, 1, 60);
        bounds(BANK, "notice 5 5;", 1, 0, 300);
    }

    private static void noticesAtMost() {
        Check.sentence("3 at most");
        reads(BANK + NOTICE.repeat(3), 4);
        Check.reads(BANK + NOTICE.repeat(4), -47, 3);
    }

    private static void workerNumbers() {
        Check.sentence("'worker' RATE LEAVE (1 to 999, 0 to 9999");
        bounds(BANK, "worker 5 5;", 0, 1, 999);
        bounds(BANK, "worker 5 5;", 1, 0, 9999);
    }

    private static void workersAtMost() {
        Check.sentence("4 at most");
        reads(BANK + WORKER.repeat(4), 5);
        Check.reads(BANK + WORKER.repeat(5), -58, 3);
        // Each sort has a bound of its own.
        reads(BANK + WORKER.repeat(4) + NOTICE.repeat(3) + SEASON.repeat(5), 13);
    }

    private static void workersFromZero() {
        Check.sentence("numbered from 0");
        HoursBank bank = Check.bankOf(BANK + "worker 1 10;" + SEASON + "worker 1 11;" + NOTICE + "worker 1 12;worker 1 13;");
        for (int i = 0; i < 4; i++) {
            Check.is("leave of " + i, bank.worker(i, 1), 10 + i);
        }
        Check.throwsNoSuch("of 4", () -> bank.worker(4, 1));
    }

    // ---- faults

    private static void firstFaultAlong() {
        Check.sentence("FAULTS, the first along the text");
        Check.reads("bank 1 1 0 ?;", -10, 2);
        Check.reads("bank 1 ? 0 1;", -8, 1);
        Check.reads(BANK + WORKER.repeat(5) + "?", -58, 3);
        Check.reads(BANK + WORKER.repeat(4) + "? worker", -58, 1);
        Check.reads(BANK + WORKER.repeat(3) + "worker 0 1;" + WORKER, -54, 2);
    }

    private static void leastFaultOfOneToken() {
        Check.sentence("of one TOKEN the least");
        // One more 'bank' than told can't come there either; nor can these words and numbers.
        Check.reads(BANK + BANK, -14, 1);
        Check.reads(BANK + WORKER.repeat(4) + "notice worker 1;", -65, 1);
        Check.reads(BANK + "worker 1 1 1000;", -25, 1);
        Check.reads(BANK + "1000;", -14, 1);
        Check.reads("bank 1 1 00061 1;", -10, 1);
        Check.reads("bank 1 1 61a 1;", -10, 1);
    }

    private static void placeOfNoToken() {
        Check.sentence("1 no TOKEN, or one that can't come (at it");
        Check.reads("?", -1, 1);
        Check.reads(" \n?", -3, 1);
        Check.reads("bank 1 1 1 1? ;", -13, 1);
        Check.reads(BANK + "   workers 1 1;", -17, 1);
        Check.reads("bank 1 1 12345 1;", -10, 1);
    }

    private static void placeOfTheEnd() {
        Check.sentence("the end: how many bytes there are");
        Check.reads("bank", -5, 1);
        Check.reads("bank 1 1 1 1", -13, 1);
        Check.reads("bank 1 1 1 1 \n", -15, 1);
        Check.reads(BANK + "worker", -20, 1);
        Check.reads("bank" + " ".repeat(695), -700, 1);
        Check.reads("bank" + " ".repeat(696), -701, 1);
    }

    private static void placeBeyond700() {
        Check.sentence("700, if there are more and no FAULT is ahead");
        Check.reads("bank" + " ".repeat(697), -701, 1);
        Check.reads(BANK + " ".repeat(687) + "?", -701, 1);
        Check.reads(BANK + " ".repeat(687) + WORKER, -701, 1);
        Check.reads(BANK + " ".repeat(688) + "?", -701, 1);
        Check.reads(BANK + WORKER.repeat(4) + " ".repeat(643) + "worker", -701, 1);
        Check.reads("bank 1 1" + " ".repeat(692) + "61", -701, 1);
    }

    private static void faultAheadOf700() {
        Check.sentence("and no FAULT is ahead");
        Check.reads(BANK + " ".repeat(686) + "?" + " ".repeat(40), -700, 1);
        Check.reads("?" + " ".repeat(739), -1, 1);
        Check.reads("bank 1 1" + " ".repeat(691) + "0" + " ".repeat(40), -700, 2);
        Check.reads(BANK + WORKER.repeat(4) + " ".repeat(600) + WORKER + " ".repeat(72), -658, 3);
    }

    private static void tokensReadWhole() {
        Check.sentence("TOKENS that begin ahead of it are read whole");
        Check.reads(" ".repeat(699) + "bank", -701, 1);
        Check.reads(" ".repeat(699) + "banks", -700, 1);
        Check.reads(" ".repeat(699) + "b", -700, 1);
        Check.reads("bank" + " ".repeat(695) + "1234", -701, 1);
        Check.reads("bank" + " ".repeat(695) + "12345", -700, 1);
        Check.reads("bank" + " ".repeat(695) + "1a", -700, 1);
        Check.reads("bank 1 1" + " ".repeat(691) + "60", -701, 1);
        Check.reads("bank 1 1" + " ".repeat(691) + "61", -700, 2);
        Check.reads(BANK + WORKER.repeat(4) + " ".repeat(642) + "worker", -700, 3);
        Check.reads(BANK + WORKER.repeat(4) + " ".repeat(642) + "workers", -700, 1);
    }

    private static void placeOfNumber() {
        Check.sentence("2 a NUMBER that is not as told (a DAY: 0 to 363; at it)");
        Check.reads("bank 1 1   61 1;", -12, 2);
        Check.reads("bank 1 1 000\n1;", -10, 2);
        Check.reads(BANK + "season 364 364 1 1 1 1 1 1 1;", -21, 2);
        Check.reads(BANK + "season 0 364 1 1 1 1 1 1 1;", -23, 2);
        Check.reads(BANK + "season 0 9999 1 1 1 1 1 1 1;", -23, 2);
    }

    private static void placeOfOneMore() {
        Check.sentence("3 one more of a sort than told (at its WORD)");
        Check.reads(BANK + NOTICE.repeat(3) + " \nnotice", -49, 3);
        Check.reads(BANK + NOTICE.repeat(3) + "notice ?", -47, 3);
        Check.reads(BANK + NOTICE.repeat(3) + "notice 0 999;", -47, 3);
        Check.reads(BANK + NOTICE + WORKER + NOTICE + WORKER + NOTICE + WORKER + NOTICE, -80, 3);
    }

    // ---- promises 1 to 5

    private static void newObject() {
        Check.sentence("nothing else told, TODAY 0; an empty tape");
        HoursBank bank = new HoursBank();
        for (int what = 0; what <= 9; what++) {
            Check.is("now(" + what + ")", bank.now(what), 0);
        }
        Check.throwsNoSuch("worker(0, 0)", () -> bank.worker(0, 0));
        Check.is("day(0, 0, 0)", bank.day(0, 0, 0), -1);
        Check.is("end(1)", bank.end(1), false);
        Check.is("undo()", bank.undo(), -1);
        Check.is("endDay()", bank.endDay(), 0);
    }

    private static void feedHighestFirst() {
        Check.sentence("Twenty bytes come behind the tape, of each number the highest first");
        HoursBank bank = new HoursBank();
        // "bank 1 2 3 4;worker " and "7 89;" with bytes above 127 behind it.
        Check.is("feed", bank.feed(0x62616E6B, 0x20312032, 0x20332034, 0x3B776F72, 0x6B657220), 20);
        Check.is("feed more", bank.feed(0x37203839, 0x3BFFFEFD, 0x80818283, -1, Integer.MIN_VALUE), 40);
        bank.end(25);
        Check.is("text", bank.text(), 2);
        Check.is("leave", bank.worker(0, 1), 89);
        bank.feed(0x20202020, 0x20202020, 0x20202020, 0x20202020, 0x202020FF);
        Check.is("the last byte", bank.text(), -20);
    }

    private static void feedBehind() {
        Check.sentence("Twenty bytes come behind the tape");
        HoursBank bank = new HoursBank();
        Check.feed(bank, "bank 1 1 1 1;worker 1 1;");
        bank.end(13);
        Check.feed(bank, "notice 1 1;");
        Check.is("what was cut off does not come again", bank.text(), 2);
        Check.is("workers", bank.now(1), 0);
    }

    private static void feedTooMuch() {
        Check.sentence("NONE, and none come, if it would have more than 740");
        HoursBank bank = new HoursBank();
        for (int i = 1; i <= 37; i++) {
            Check.is("feed " + i, bank.feed(0, 0, 0, 0, 0), 20 * i);
        }
        Check.is("feed to 760", bank.feed(0, 0, 0, 0, 0), -1);
        Check.is("bytes", bank.now(9), 740);
        bank.end(721);
        Check.is("feed to 741", bank.feed(0, 0, 0, 0, 0), -1);
        Check.is("bytes", bank.now(9), 721);
        Check.is("none came", bank.end(722), false);
        bank.end(720);
        Check.is("feed to 740", bank.feed(0, 0, 0, 0, 0), 740);
        // A text of 740 bytes whose last feed is refused is as it was.
        HoursBank full = new HoursBank();
        Check.feed(full, BANK + " ".repeat(727));
        Check.is("refused", full.feed(0x3F3F3F3F, 0, 0, 0, 0), -1);
        full.end(700);
        Check.is("text", full.text(), 1);
    }

    private static void endFirstBytes() {
        Check.sentence("The tape has its first n bytes alone: true");
        HoursBank bank = new HoursBank();
        Check.is("end(0) of none", bank.end(0), true);
        Check.feed(bank, "bank 1 1 1 12;worker");
        Check.is("end(20) of 20", bank.end(20), true);
        Check.is("bytes", bank.now(9), 20);
        Check.is("end(12)", bank.end(12), true);
        Check.is("bytes", bank.now(9), 12);
        Check.feed(bank, ";");
        Check.is("text", bank.text(), 1);
        Check.feed(bank, BANK);
        Check.is("end(0)", bank.end(0), true);
        Check.is("bytes", bank.now(9), 0);
        Check.is("an empty text", bank.text(), 0);
        // A run of digits ends with the tape, whatever was behind it.
        Check.feed(bank, "bank 1 1 1 12345");
        bank.end(15);
        Check.is("four digits", bank.text(), -16);
    }

    private static void endNotSoMany() {
        Check.sentence("false, if it has not so many");
        HoursBank bank = new HoursBank();
        Check.is("end(1) of none", bank.end(1), false);
        bank.feed(0, 0, 0, 0, 0);
        Check.is("end(21)", bank.end(21), false);
        Check.is("end(most)", bank.end(Integer.MAX_VALUE), false);
        Check.is("bytes", bank.now(9), 20);
        bank.end(7);
        Check.is("end(8) of 7", bank.end(8), false);
        Check.is("bytes", bank.now(9), 7);
    }

    private static void endBelowZero() {
        Check.sentence("or n is below 0");
        HoursBank bank = new HoursBank();
        Check.is("end(-1) of none", bank.end(-1), false);
        bank.feed(0, 0, 0, 0, 0);
        Check.is("end(-1)", bank.end(-1), false);
        Check.is("end(least)", bank.end(Integer.MIN_VALUE), false);
        Check.is("bytes", bank.now(9), 20);
    }

    private static void tapeEmptyThen() {
        Check.sentence("The tape (empty then, even with a FAULT) is a TEXT");
        HoursBank bank = Check.bankOf(BANK);
        Check.is("bytes behind a text", bank.now(9), 0);
        Check.feed(bank, BANK + "?");
        Check.is("a fault", bank.text(), -14);
        Check.is("bytes behind a fault", bank.now(9), 0);
        Check.is("end(1)", bank.end(1), false);
        Check.is("text again", bank.text(), 0);
    }

    private static void emptyText() {
        Check.sentence("an empty one: as at first");
        HoursBank bank = Check.bankOf("bank 1 1 1 1;season 0 9 1 1 1 1 1 1 1;worker 1 1;");
        bank.work(0, 96);
        bank.endDay();
        Check.is("text", bank.text(), 0);
        for (int what = 0; what <= 9; what++) {
            Check.is("now(" + what + ")", bank.now(what), 0);
        }
        Check.throwsNoSuch("worker(0, 0)", () -> bank.worker(0, 0));
        Check.is("undo()", bank.undo(), -1);
        Check.is("fault()", bank.fault(), 0);
    }

    private static void linesTold() {
        Check.sentence("how many LINES");
        reads("", 0);
        reads(BANK, 1);
        reads(BANK + WORKER, 2);
        // As many lines as there can be, and as long as they can be.
        reads("bank 9999 9999 0060 9999;" + "season 0363 0363 0096 0096 0096 0096 0096 0096 0096;".repeat(5)
            + "notice 0060 0300;".repeat(3) + "worker 0999 9999;".repeat(4), 13);
    }

    private static void faultLeavesAll() {
        Check.sentence("-1 less the place of a FAULT: all stays");
        HoursBank bank = Check.bankOf("bank 9 9 3 50;season 0 363 4 4 4 4 4 4 4;notice 9 50;worker 10 100;");
        bank.work(0, 6);
        bank.endDay();
        for (String text : new String[] {"bank 1 1 1 1;worker 7 7;worker 8 8;?", "?", "bank 0 0 0", "bank 0 0 1 0",
            BANK + "season 0 363 9 9 9 9 9 9 9;notice 60 300;" + WORKER.repeat(5), BANK + " ".repeat(700)}) {
            Check.feed(bank, text);
            Check.is("a fault of " + text, bank.text() < 0, true);
            Check.is("today", bank.now(0), 1);
            Check.is("workers", bank.now(1), 1);
            Check.is("seasons", bank.now(3), 1);
            Check.is("balance", bank.worker(0, 0), 2);
            Check.is("leave", bank.worker(0, 1), 100);
            Check.is("planned", bank.planned(0, 0, 6), 28);
            Check.is("window and limit", bank.room(0), 44);
            Check.is("high", bank.reaches(0, 4), 2);
            Check.is("low", bank.reaches(0, -4), 3);
            Check.is("notice and rate", bank.cost(0, 9, 14), 50);
            Check.is("notice and rate, later", bank.cost(0, 10, 14), 0);
            Check.is("what can be undone", bank.now(8), 2);
        }
        bank.undo();
        Check.is("undone", bank.now(0), 0);
        Check.is("worked stays told", bank.day(0, 0, 1), 6);
    }

    private static void faultOfTheLatest() {
        Check.sentence("The kind of the FAULT of the latest text(); 0 without one");
        HoursBank bank = new HoursBank();
        faultThen(bank, "bank 1 1 0 1;", 2);
        faultThen(bank, BANK + WORKER.repeat(5), 3);
        Check.feed(bank, "?");
        bank.endDay();
        bank.undo();
        Check.is("fault() until the next text()", bank.fault(), 3);
        bank.text();
        Check.is("fault() then", bank.fault(), 1);
        faultThen(bank, BANK, 0);
        faultThen(bank, "?", 1);
        faultThen(bank, "", 0);
    }

    private static void faultThen(HoursBank bank, String text, int due) {
        Check.feed(bank, text);
        bank.text();
        Check.is("fault() of " + text, bank.fault(), due);
        Check.is("fault() again", bank.fault(), due);
    }

    private static void faultAheadOfAny() {
        Check.sentence("0 without one and ahead of any");
        HoursBank bank = new HoursBank();
        Check.is("fault() at first", bank.fault(), 0);
        Check.feed(bank, "?");
        Check.is("fault() of what is not a text yet", bank.fault(), 0);
    }

    private static void newTextBeginsAnew() {
        Check.sentence("A new TEXT: DAY 0, nothing can be undone.");
        String text = "bank 5 5 2 5;season 0 363 4 4 4 4 4 4 4;notice 9 50;worker 10 100;";
        HoursBank bank = Check.bankOf(text);
        bank.plan(0, 3, 9);
        bank.book(0, 5, true);
        bank.work(0, 96);
        bank.endDay();
        bank.sick(0, true);
        bank.leave(0);
        Check.feed(bank, text);
        Check.is("the same text", bank.text(), 4);
        Check.is("what can be undone", bank.now(8), 0);
        Check.is("undo()", bank.undo(), -1);
        for (int what : new int[] {0, 4, 5, 6, 7}) {
            Check.is("now(" + what + ")", bank.now(what), 0);
        }
        for (int what = 0; what <= 11; what++) {
            Check.is("worker(0, " + what + ")", bank.worker(0, what), what == 1 ? 100 : 0);
        }
        for (int day : new int[] {0, 1, 3, 5}) {
            for (int what = 0; what <= 5; what++) {
                Check.is("day(0, " + day + ", " + what + ")", bank.day(0, day, what), what == 0 ? 4 : 0);
            }
        }
        Check.close(bank, 3);
        Check.is("docked", bank.worker(0, 3), 7);
        Check.feed(bank, text);
        bank.text();
        for (int what = 0; what <= 11; what++) {
            Check.is("worker(0, " + what + ") of one docked", bank.worker(0, what), what == 1 ? 100 : 0);
        }
    }

    // ---- helpers

    private static void reads(String text, int lines) {
        Check.reads(text, lines, 0);
    }

    /** The number at a place of a line is good from least to most, and not one below or above. */
    private static void bounds(String ahead, String line, int at, int least, int most) {
        int lines = ahead.isEmpty() ? 1 : 2;
        reads(ahead + with(line, at, least), lines);
        reads(ahead + with(line, at, most), lines);
        int place = ahead.length() + line.indexOf(' ') + 1;
        String[] parts = line.split(" ");
        for (int i = 1; i <= at; i++) {
            place += parts[i].length() + 1;
        }
        if (least > 0) {
            Check.reads(ahead + with(line, at, least - 1), -1 - place, 2);
        }
        // A number of five digits is no token.
        Check.reads(ahead + with(line, at, most + 1), -1 - place, most == 9999 ? 1 : 2);
    }

    private static String with(String line, int at, int number) {
        String[] parts = line.substring(0, line.length() - 1).split(" ");
        parts[at + 1] = String.valueOf(number);
        return String.join(" ", parts) + ";";
    }
}
