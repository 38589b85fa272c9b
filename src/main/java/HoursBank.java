import java.util.Arrays;
import java.util.NoSuchElementException;

/** An hours bank desk: plans, days, balances, leave and coins of up to four workers over one year. */
public final class HoursBank {
    public static final int NONE = -1;

    private static final int NEVER = -2;
    private static final int NO_ROOM = -2;
    private static final int NO_SUCH_COUNT = NONE - 99999999;
    private static final int DAYS = 364;
    private static final int WEEK = 7;
    private static final int MOST_QUARTERS = 96;
    private static final int MOST_WORKERS = 4;

    private static final int KIND_SICK = 1;
    private static final int KIND_LEAVE = 2;

    private final Tape tape;
    private final TextReader reader;
    private final Sheet[] sheets;
    private final History history;
    private Rules rules;
    private Rules draft;
    private int today;

    public HoursBank() {
        tape = new Tape();
        reader = new TextReader(tape);
        rules = new Rules();
        draft = new Rules();
        sheets = new Sheet[MOST_WORKERS];
        for (int i = 0; i < MOST_WORKERS; i++) {
            sheets[i] = new Sheet(rules, i);
        }
        history = new History();
        today = 0;
    }

    // ---- the tape and its texts

    public int feed(int a, int b, int c, int d, int e) {
        if (tape.size + 20 > Tape.MOST_BYTES) {
            return NONE;
        }
        tape.append(a);
        tape.append(b);
        tape.append(c);
        tape.append(d);
        tape.append(e);
        return tape.size;
    }

    public boolean end(int n) {
        if (n < 0 || n > tape.size) {
            return false;
        }
        tape.size = n;
        return true;
    }

    public int text() {
        int answer = reader.readInto(draft);
        tape.size = 0;
        if (answer >= 0) {
            adoptDraft();
        }
        return answer;
    }

    public int fault() {
        return reader.faultKind;
    }

    /** The two rule books change places, so that a text with a fault leaves the one in use alone. */
    private void adoptDraft() {
        Rules adopted = draft;
        draft = rules;
        rules = adopted;
        today = 0;
        history.count = 0;
        for (int i = 0; i < MOST_WORKERS; i++) {
            sheets[i].begin(rules, i);
        }
    }

    // ---- what stands

    public int now(int what) {
        switch (what) {
            case 0: return today;
            case 1: return rules.workers();
            case 2: return presentWorkers();
            case 3: return rules.seasons();
            case 4: return changedPlans();
            case 5: return bookedDays();
            case 6: return flaggedDays();
            case 7: return coinsPaid();
            case 8: return history.count;
            case 9: return tape.size;
            default: return NO_SUCH_COUNT;
        }
    }

    public int worker(int worker, int what) throws NoSuchElementException {
        if (!isWorker(worker)) {
            throw new NoSuchElementException("no such worker");
        }
        Sheet sheet = sheets[worker];
        Account account = sheet.account;
        switch (what) {
            case 0: return account.balance;
            case 1: return sheet.leaveLeft();
            case 2: return account.overtime;
            case 3: return account.docked;
            case 4: return account.overtimeCoins;
            case 5: return account.changeCoins;
            case 6: return account.dockedCoins;
            case 7: return account.settled;
            case 8: return sheet.workedBefore(today);
            case 9: return sheet.sickDaysBefore(today);
            case 10: return account.flaggedDays;
            case 11: return account.isGone() ? 1 : 0;
            default: throw new NoSuchElementException("no such count of a worker");
        }
    }

    public int day(int worker, int day, int what) {
        if (!isWorker(worker) || !isDay(day)) {
            return NONE;
        }
        Sheet sheet = sheets[worker];
        switch (what) {
            case 0: return sheet.planOn(day);
            case 1: return sheet.workedOn(day);
            case 2: return sheet.kindOn(day);
            case 3: return sheet.loadOn(day);
            case 4: return sheet.flagged[day] ? 1 : 0;
            case 5: return sheet.isChanged(day) ? 1 : 0;
            default: return NONE;
        }
    }

    public int load(int worker, int day) {
        return isWorker(worker) && isDay(day) ? sheets[worker].windowLoad(day) : NONE;
    }

    public int planned(int worker, int from, int to) {
        if (!isWorker(worker) || !isDay(from) || !isDay(to) || from > to) {
            return NONE;
        }
        return sheets[worker].plansBetween(from, to);
    }

    // ---- what would be

    public int room(int worker) {
        if (!isPresent(worker) || !isDay(today)) {
            return NONE;
        }
        int free = rules.limit() - sheets[worker].windowLoadAhead(today);
        return free < 0 ? NO_ROOM : Math.min(free, MOST_QUARTERS);
    }

    public int reaches(int worker, int extra) {
        if (!isPresent(worker) || extra < -MOST_QUARTERS || extra > MOST_QUARTERS) {
            return NONE;
        }
        return sheets[worker].firstDayOutOfBounds(today, extra);
    }

    public int cost(int worker, int day, int quarters) {
        return canChange(worker, day, quarters) ? priceOf(worker, day, quarters) : NONE;
    }

    public int due(int worker) throws NoSuchElementException {
        if (!isPresent(worker)) {
            throw new NoSuchElementException("no such worker");
        }
        return sheets[worker].settlementOn(today);
    }

    // ---- acts

    public int plan(int worker, int day, int quarters) {
        if (!canChange(worker, day, quarters)) {
            return NONE;
        }
        int price = priceOf(worker, day, quarters);
        history.rememberDay(today, sheets, worker, day);
        sheets[worker].changed[day] = quarters;
        sheets[worker].account.changeCoins += price;
        return price;
    }

    public boolean work(int worker, int quarters) {
        if (!isOpen(worker, today) || !isQuarters(quarters) || sheets[worker].told[today] < 0) {
            return false;
        }
        tell(worker, today, quarters);
        return true;
    }

    public boolean sick(int worker, boolean is) {
        int needed = is ? Sheet.NOTHING : Sheet.SICK;
        if (!isOpen(worker, today) || sheets[worker].told[today] != needed) {
            return false;
        }
        tell(worker, today, is ? Sheet.SICK : Sheet.NOTHING);
        return true;
    }

    public int book(int worker, int day, boolean is) {
        int needed = is ? Sheet.NOTHING : Sheet.ON_LEAVE;
        if (!isOpen(worker, day) || sheets[worker].told[day] != needed) {
            return NONE;
        }
        Sheet sheet = sheets[worker];
        if (is && sheet.leaveLeft() < sheet.planOn(day)) {
            return NO_ROOM;
        }
        tell(worker, day, is ? Sheet.ON_LEAVE : Sheet.NOTHING);
        return sheet.leaveLeft();
    }

    public int endDay() {
        if (!isDay(today)) {
            return NONE;
        }
        history.remember(today, sheets);
        int flagged = 0;
        for (int i = 0; i < rules.workers(); i++) {
            if (!sheets[i].account.isGone() && sheets[i].closeDay(today)) {
                flagged++;
            }
        }
        today++;
        return flagged;
    }

    public int leave(int worker) throws NoSuchElementException {
        if (!isPresent(worker)) {
            throw new NoSuchElementException("no such worker");
        }
        history.remember(today, sheets);
        Account account = sheets[worker].account;
        account.settled = sheets[worker].settlementOn(today);
        account.balance = 0;
        account.goneOn = today;
        return account.settled;
    }

    public int undo() {
        if (history.count == 0) {
            return NONE;
        }
        today = history.takeBack(sheets);
        return history.count;
    }

    private void tell(int worker, int day, int told) {
        history.rememberDay(today, sheets, worker, day);
        sheets[worker].told[day] = told;
    }

    // ---- who and when there is

    private static boolean isDay(int day) {
        return day >= 0 && day < DAYS;
    }

    private static boolean isQuarters(int quarters) {
        return quarters >= 0 && quarters <= MOST_QUARTERS;
    }

    private boolean isWorker(int worker) {
        return worker >= 0 && worker < rules.workers();
    }

    private boolean isPresent(int worker) {
        return isWorker(worker) && !sheets[worker].account.isGone();
    }

    /** Something can still be told of this day of this worker. */
    private boolean isOpen(int worker, int day) {
        return isPresent(worker) && isDay(day) && day >= today;
    }

    private boolean canChange(int worker, int day, int quarters) {
        return isOpen(worker, day) && isQuarters(quarters) && sheets[worker].kindOn(day) != KIND_LEAVE;
    }

    private int priceOf(int worker, int day, int quarters) {
        int difference = Math.abs(quarters - sheets[worker].planOn(day));
        return rules.percentFor(day - today) * sheets[worker].rate * difference / 100;
    }

    // ---- counts over all workers

    private int presentWorkers() {
        int count = 0;
        for (int i = 0; i < rules.workers(); i++) {
            count += sheets[i].account.isGone() ? 0 : 1;
        }
        return count;
    }

    private int changedPlans() {
        int count = 0;
        for (int i = 0; i < rules.workers(); i++) {
            count += sheets[i].changedDays();
        }
        return count;
    }

    private int bookedDays() {
        int count = 0;
        for (int i = 0; i < rules.workers(); i++) {
            count += sheets[i].bookedFrom(today);
        }
        return count;
    }

    private int flaggedDays() {
        int count = 0;
        for (int i = 0; i < rules.workers(); i++) {
            count += sheets[i].account.flaggedDays;
        }
        return count;
    }

    private int coinsPaid() {
        int coins = 0;
        for (int i = 0; i < rules.workers(); i++) {
            coins += sheets[i].account.coinsPaid();
        }
        return coins;
    }

    /** The bytes that were fed. */
    private static final class Tape {
        static final int MOST_BYTES = 740;

        final byte[] bytes = new byte[MOST_BYTES];
        int size;

        void append(int number) {
            for (int shift = 24; shift >= 0 && size < MOST_BYTES; shift -= 8) {
                bytes[size] = (byte) (number >> shift);
                size++;
            }
        }
    }

    /** Cuts a tape into tokens, one at a time. */
    private static final class Tokens {
        static final int END = 0;
        static final int WORD = 1;
        static final int NUMBER = 2;
        static final int SIGN = 3;
        static final int NO_TOKEN = 4;

        private static final int MOST_TEXT = 700;
        private static final int MOST_DIGITS = 4;

        private final Tape tape;
        private int next;
        int kind;
        int place;
        int number;

        Tokens(Tape tape) {
            this.tape = tape;
        }

        void restart() {
            next = 0;
        }

        boolean isTextTooLong() {
            return tape.size > MOST_TEXT;
        }

        void advance() {
            int stop = Math.min(tape.size, MOST_TEXT);
            while (next < stop && isBlank(tape.bytes[next])) {
                next++;
            }
            // A token that began ahead of the stop may have ended behind it.
            place = Math.min(next, stop);
            if (next >= stop) {
                kind = END;
            } else if (isLetter(tape.bytes[next]) || isDigit(tape.bytes[next])) {
                readRun();
            } else {
                kind = tape.bytes[next] == ';' ? SIGN : NO_TOKEN;
                next++;
            }
        }

        private void readRun() {
            int letters = 0;
            int digits = 0;
            number = 0;
            for (; next < tape.size; next++) {
                int sign = tape.bytes[next];
                if (isLetter(sign)) {
                    letters++;
                } else if (isDigit(sign)) {
                    digits++;
                    number = number * 10 + sign - '0';
                } else {
                    break;
                }
            }
            if (digits == 0) {
                kind = WORD;
            } else {
                kind = letters == 0 && digits <= MOST_DIGITS ? NUMBER : NO_TOKEN;
            }
        }

        boolean isWord(String word) {
            if (kind != WORD || next - place != word.length()) {
                return false;
            }
            for (int i = 0; i < word.length(); i++) {
                if (tape.bytes[place + i] != word.charAt(i)) {
                    return false;
                }
            }
            return true;
        }

        private static boolean isBlank(int sign) {
            return sign == 32 || sign == 10;
        }

        private static boolean isLetter(int sign) {
            return sign >= 'a' && sign <= 'z';
        }

        private static boolean isDigit(int sign) {
            return sign >= '0' && sign <= '9';
        }
    }

    /** Reads the tape's lines into a rule book and keeps the first fault. */
    private static final class TextReader {
        private static final int CANNOT_COME = 1;
        private static final int NOT_AS_TOLD = 2;
        private static final int ONE_TOO_MANY = 3;

        private final Tape tape;
        private final Tokens tokens;
        int faultKind;
        private int faultPlace;

        TextReader(Tape tape) {
            this.tape = tape;
            this.tokens = new Tokens(tape);
        }

        /** How many lines there are, or -1 less the place of the first fault. */
        int readInto(Rules rules) {
            rules.clear();
            tokens.restart();
            faultKind = 0;
            int lines = 0;
            // Each line takes a byte at least, so the tape's size is more turns than are needed.
            for (int turn = 0; turn <= tape.size; turn++) {
                tokens.advance();
                if (tokens.kind == Tokens.END) {
                    break;
                }
                readLine(rules, lines == 0);
                if (faultKind != 0) {
                    return -1 - faultPlace;
                }
                lines++;
            }
            if (tokens.isTextTooLong()) {
                fail(CANNOT_COME);
                return -1 - faultPlace;
            }
            return lines;
        }

        private void readLine(Rules rules, boolean isFirst) {
            int sort = sortOfLine();
            if (sort == NONE || (sort == Rules.BANK) != isFirst) {
                fail(CANNOT_COME);
            } else if (rules.isFull(sort)) {
                fail(ONE_TOO_MANY);
            } else {
                readNumbers(sort, rules.openRow(sort));
                readLineEnd();
            }
        }

        private int sortOfLine() {
            for (int sort = 0; sort < Rules.SORTS; sort++) {
                if (tokens.isWord(Rules.wordOf(sort))) {
                    return sort;
                }
            }
            return NONE;
        }

        private void readNumbers(int sort, int[] row) {
            for (int i = 0; i < row.length && faultKind == 0; i++) {
                tokens.advance();
                if (tokens.kind != Tokens.NUMBER) {
                    fail(CANNOT_COME);
                } else if (!Rules.isAsTold(sort, row, i, tokens.number)) {
                    fail(NOT_AS_TOLD);
                } else {
                    row[i] = tokens.number;
                }
            }
        }

        private void readLineEnd() {
            if (faultKind != 0) {
                return;
            }
            tokens.advance();
            if (tokens.kind != Tokens.SIGN) {
                fail(CANNOT_COME);
            }
        }

        private void fail(int kind) {
            faultKind = kind;
            faultPlace = tokens.place;
        }
    }

    /** What a text tells: the bank, its seasons, notices and workers, each line as a row of numbers. */
    private static final class Rules {
        static final int BANK = 0;
        static final int SEASON = 1;
        static final int NOTICE = 2;
        static final int WORKER = 3;
        static final int SORTS = 4;

        private static final int TO = 1;
        private static final int FIRST_QUARTERS = 2;

        private static final int[] BANK_LEAST = {0, 0, 1, 0};
        private static final int[] BANK_MOST = {9999, 9999, 60, 9999};
        private static final int[] SEASON_LEAST = {0, 0, 0, 0, 0, 0, 0, 0, 0};
        private static final int[] SEASON_MOST = {363, 363, 96, 96, 96, 96, 96, 96, 96};
        private static final int[] NOTICE_LEAST = {1, 0};
        private static final int[] NOTICE_MOST = {60, 300};
        private static final int[] WORKER_LEAST = {1, 0};
        private static final int[] WORKER_MOST = {999, 9999};

        private final int[][] banks = new int[1][4];
        private final int[][] seasons = new int[5][9];
        private final int[][] notices = new int[3][2];
        private final int[][] workers = new int[MOST_WORKERS][2];
        private final int[] counts = new int[SORTS];

        Rules() {
            clear();
        }

        void clear() {
            Arrays.fill(counts, 0);
            Arrays.fill(banks[0], 0);
            banks[0][2] = 1;
        }

        static String wordOf(int sort) {
            switch (sort) {
                case BANK: return "bank";
                case SEASON: return "season";
                case NOTICE: return "notice";
                default: return "worker";
            }
        }

        private int[][] rowsOf(int sort) {
            switch (sort) {
                case BANK: return banks;
                case SEASON: return seasons;
                case NOTICE: return notices;
                default: return workers;
            }
        }

        private static int[] leastOf(int sort) {
            switch (sort) {
                case BANK: return BANK_LEAST;
                case SEASON: return SEASON_LEAST;
                case NOTICE: return NOTICE_LEAST;
                default: return WORKER_LEAST;
            }
        }

        private static int[] mostOf(int sort) {
            switch (sort) {
                case BANK: return BANK_MOST;
                case SEASON: return SEASON_MOST;
                case NOTICE: return NOTICE_MOST;
                default: return WORKER_MOST;
            }
        }

        boolean isFull(int sort) {
            return counts[sort] >= rowsOf(sort).length;
        }

        /** The row for one more line of a sort that is not full. */
        int[] openRow(int sort) {
            int[] row = rowsOf(sort)[counts[sort]];
            counts[sort]++;
            return row;
        }

        /** Whether a number may stand at a place of a row whose earlier places are filled. */
        static boolean isAsTold(int sort, int[] row, int at, int number) {
            int least = leastOf(sort)[at];
            if (sort == SEASON && at == TO) {
                least = row[0];
            }
            return number >= least && number <= mostOf(sort)[at];
        }

        int low() {
            return banks[0][0];
        }

        int high() {
            return banks[0][1];
        }

        int window() {
            return banks[0][2];
        }

        int limit() {
            return banks[0][3];
        }

        int seasons() {
            return counts[SEASON];
        }

        int workers() {
            return counts[WORKER];
        }

        int rateOf(int worker) {
            return workers[worker][0];
        }

        int leaveOf(int worker) {
            return workers[worker][1];
        }

        int seasonPlan(int day) {
            for (int i = counts[SEASON] - 1; i >= 0; i--) {
                if (seasons[i][0] <= day && day <= seasons[i][TO]) {
                    return seasons[i][FIRST_QUARTERS + day % WEEK];
                }
            }
            return 0;
        }

        int percentFor(int daysAhead) {
            int percent = 0;
            for (int i = 0; i < counts[NOTICE]; i++) {
                if (notices[i][0] > daysAhead) {
                    percent = Math.max(percent, notices[i][1]);
                }
            }
            return percent;
        }
    }

    /** What adds up for one worker while days are closed. */
    private static final class Account {
        // Later than any day that one can leave on, so that no day is behind it.
        private static final int NOT_GONE = DAYS + 1;

        int balance;
        int overtime;
        int docked;
        int overtimeCoins;
        int changeCoins;
        int dockedCoins;
        int settled;
        int flaggedDays;
        int goneOn = NOT_GONE;

        void clear() {
            balance = 0;
            overtime = 0;
            docked = 0;
            overtimeCoins = 0;
            changeCoins = 0;
            dockedCoins = 0;
            settled = 0;
            flaggedDays = 0;
            goneOn = NOT_GONE;
        }

        void copyFrom(Account other) {
            balance = other.balance;
            overtime = other.overtime;
            docked = other.docked;
            overtimeCoins = other.overtimeCoins;
            changeCoins = other.changeCoins;
            dockedCoins = other.dockedCoins;
            settled = other.settled;
            flaggedDays = other.flaggedDays;
            goneOn = other.goneOn;
        }

        boolean isGone() {
            return goneOn != NOT_GONE;
        }

        int coinsPaid() {
            return overtimeCoins + changeCoins + settled - dockedCoins;
        }
    }

    /** One worker's year. The days that its methods take are days of the year. */
    private static final class Sheet {
        // A day is told as its quarters, or as less the kind that has none.
        static final int NOTHING = 0;
        static final int SICK = -KIND_SICK;
        static final int ON_LEAVE = -KIND_LEAVE;

        final int[] changed = new int[DAYS];
        final int[] told = new int[DAYS];
        final boolean[] flagged = new boolean[DAYS];
        final Account account = new Account();
        int rate;
        private int leaveInAll;
        private Rules rules;

        Sheet(Rules rules, int number) {
            begin(rules, number);
        }

        void begin(Rules newRules, int number) {
            rules = newRules;
            rate = newRules.rateOf(number);
            leaveInAll = newRules.leaveOf(number);
            account.clear();
            for (int day = 0; day < DAYS; day++) {
                changed[day] = NONE;
                told[day] = NOTHING;
                flagged[day] = false;
            }
        }

        boolean isChanged(int day) {
            return changed[day] != NONE;
        }

        int planOn(int day) {
            return isChanged(day) ? changed[day] : rules.seasonPlan(day);
        }

        /** Days booked when their worker leaves stay told, so that undoing needs no list of them. */
        private boolean isBookingLost(int day) {
            return told[day] == ON_LEAVE && day >= account.goneOn;
        }

        int kindOn(int day) {
            return told[day] >= 0 || isBookingLost(day) ? 0 : -told[day];
        }

        int workedOn(int day) {
            return Math.max(told[day], 0);
        }

        int loadOn(int day) {
            return kindOn(day) == KIND_SICK ? planOn(day) : workedOn(day);
        }

        /** Loads of the window's days that come ahead of its last one. */
        int windowLoadAhead(int last) {
            int sum = 0;
            for (int day = Math.max(0, last - rules.window() + 1); day < last; day++) {
                sum += loadOn(day);
            }
            return sum;
        }

        int windowLoad(int last) {
            return windowLoadAhead(last) + loadOn(last);
        }

        int plansBetween(int from, int to) {
            int sum = 0;
            for (int day = from; day <= to; day++) {
                sum += planOn(day);
            }
            return sum;
        }

        int workedBefore(int end) {
            int sum = 0;
            for (int day = 0; day < end; day++) {
                sum += workedOn(day);
            }
            return sum;
        }

        int sickDaysBefore(int end) {
            int count = 0;
            for (int day = 0; day < end; day++) {
                count += kindOn(day) == KIND_SICK ? 1 : 0;
            }
            return count;
        }

        int changedDays() {
            int count = 0;
            for (int day = 0; day < DAYS; day++) {
                count += isChanged(day) ? 1 : 0;
            }
            return count;
        }

        int bookedFrom(int first) {
            int count = 0;
            for (int day = first; day < DAYS; day++) {
                count += kindOn(day) == KIND_LEAVE ? 1 : 0;
            }
            return count;
        }

        private int leaveTakenBefore(int end) {
            int sum = 0;
            for (int day = 0; day < end; day++) {
                sum += kindOn(day) == KIND_LEAVE ? planOn(day) : 0;
            }
            return sum;
        }

        int leaveLeft() {
            return account.isGone() ? 0 : leaveInAll - leaveTakenBefore(DAYS);
        }

        int settlementOn(int today) {
            int earned = leaveInAll * today / DAYS;
            return rate * account.balance + rate * (earned - leaveTakenBefore(today));
        }

        int firstDayOutOfBounds(int today, int extra) {
            int balance = account.balance;
            for (int day = today; day < DAYS; day++) {
                // Only today can be sick, so this passes over booked days and a sick today.
                if (kindOn(day) == 0) {
                    int plan = planOn(day);
                    balance += Math.max(0, Math.min(plan + extra, MOST_QUARTERS)) - plan;
                }
                if (balance > rules.high() || balance < -rules.low()) {
                    return day;
                }
            }
            return NEVER;
        }

        /** Whether the day is flagged. */
        boolean closeDay(int day) {
            if (kindOn(day) == 0) {
                addToBalance(workedOn(day) - planOn(day));
            }
            flagged[day] = windowLoad(day) > rules.limit();
            if (flagged[day]) {
                account.flaggedDays++;
            }
            return flagged[day];
        }

        private void addToBalance(int quarters) {
            int balance = account.balance + quarters;
            int above = Math.max(0, balance - rules.high());
            int below = Math.max(0, -rules.low() - balance);
            account.balance = balance - above + below;
            account.overtime += above;
            account.overtimeCoins += above * rate * 3 / 2;
            account.docked += below;
            account.dockedCoins += below * rate;
        }
    }

    /** What stood ahead of one act: every account, and the one day of a worker that the act told of. */
    private static final class Step {
        int today;
        int worker;
        int day;
        int changed;
        int told;
        final Account[] accounts = new Account[MOST_WORKERS];

        Step() {
            for (int i = 0; i < MOST_WORKERS; i++) {
                accounts[i] = new Account();
            }
        }
    }

    /** The latest acts, kept in a ring whose steps are used again. */
    private static final class History {
        private static final int MOST_STEPS = 10;

        private final Step[] steps = new Step[MOST_STEPS];
        private int next;
        int count;

        History() {
            for (int i = 0; i < MOST_STEPS; i++) {
                steps[i] = new Step();
            }
        }

        Step remember(int today, Sheet[] sheets) {
            Step step = steps[next];
            step.today = today;
            step.worker = NONE;
            for (int i = 0; i < MOST_WORKERS; i++) {
                step.accounts[i].copyFrom(sheets[i].account);
            }
            next = (next + 1) % MOST_STEPS;
            count = Math.min(count + 1, MOST_STEPS);
            return step;
        }

        void rememberDay(int today, Sheet[] sheets, int worker, int day) {
            Step step = remember(today, sheets);
            step.worker = worker;
            step.day = day;
            step.changed = sheets[worker].changed[day];
            step.told = sheets[worker].told[day];
        }

        /** Puts the sheets back and answers the day that it was then; there is a step to take back. */
        int takeBack(Sheet[] sheets) {
            next = (next + MOST_STEPS - 1) % MOST_STEPS;
            count--;
            Step step = steps[next];
            for (int i = 0; i < MOST_WORKERS; i++) {
                sheets[i].account.copyFrom(step.accounts[i]);
                if (isDay(step.today)) {
                    sheets[i].flagged[step.today] = false;
                }
            }
            if (step.worker != NONE) {
                Sheet sheet = sheets[step.worker];
                sheet.changed[step.day] = step.changed;
                sheet.told[step.day] = step.told;
            }
            return step.today;
        }
    }
}
