/** The edges that promises 6 to 14 name (what stands, what would be), sentence by sentence. */
public final class AskEdgesTest {
    private static final int FAR = Integer.MAX_VALUE;
    private static final int DEEP = Integer.MIN_VALUE;
    private static final int[] NO_WORKERS = {-1, 2, 3, 4, FAR, DEEP};
    private static final int[] NO_DAYS = {-1, 364, 365, FAR, DEEP};
    private static final String EIGHT = "season 0 363 8 8 8 8 8 8 8;";
    private static final String TWO = "bank 20 30 3 50;" + EIGHT + "notice 3 50;worker 10 364;worker 20 0;";

    public static void main(String[] args) {
        nowCounts();
        nowOfFourWorkers();
        nowBookedFromToday();
        nowCoins();
        nowUndoable();
        nowAnotherWhat();
        workerOfDaysAheadOfToday();
        workerSickDays();
        workerGone();
        workerNoSuch();
        workerAnotherWhat();
        dayAsItStands();
        dayFlaggedAsItWasClosed();
        dayChanged();
        dayNoSuch();
        dayAnotherWhat();
        loadOfTheWindow();
        loadNoSuch();
        roomAtMost();
        roomWhateverIsTold();
        roomByNone();
        roomNone();
        plannedTogether();
        plannedNone();
        reachesFirstDay();
        reachesBehindADay();
        reachesWithinADay();
        reachesPassesOver();
        reachesNever();
        reachesNone();
        costWouldBe();
        costNone();
        dueNow();
        dueNoSuch();
        askingChangesNothing();
        Check.finish();
    }

    // ---- now

    private static void nowCounts() {
        Check.sentence("1 WORKERS, 2 those not GONE, 3 seasons, 4 CHANGED plans (WORKERS by DAYS)");
        HoursBank bank = Check.bankOf(TWO);
        Check.is("workers", bank.now(1), 2);
        Check.is("seasons", bank.now(3), 1);
        bank.plan(0, 5, 9);
        bank.plan(0, 5, 10);
        bank.plan(1, 5, 9);
        bank.plan(1, 0, 8);
        Check.is("changed plans", bank.now(4), 3);
        bank.leave(0);
        bank.endDay();
        Check.is("workers", bank.now(1), 2);
        Check.is("those not gone", bank.now(2), 1);
        Check.is("changed plans of all", bank.now(4), 3);
        bank.leave(1);
        Check.is("none is there", bank.now(2), 0);
    }

    private static void nowOfFourWorkers() {
        Check.sentence("6 FLAGGED ones of all");
        HoursBank bank = Check.bankOf("bank 0 0 1 9;" + EIGHT.repeat(5) + "worker 2 9;".repeat(4));
        for (int worker = 0; worker < 4; worker++) {
            bank.work(worker, 10);
            bank.plan(worker, 5, 9);
            bank.book(worker, 6, true);
        }
        Check.is("flagged today", bank.endDay(), 4);
        int[] due = {1, 4, 4, 5, 4, 4, 4, 4 * 6, 10, 0};
        for (int what = 0; what <= 9; what++) {
            Check.is("now(" + what + ")", bank.now(what), due[what]);
        }
        bank.work(0, 10);
        bank.work(2, 10);
        bank.endDay();
        Check.is("flagged of all", bank.now(6), 6);
        bank.leave(0);
        Check.is("flagged of all, one gone", bank.now(6), 6);
    }

    private static void nowBookedFromToday() {
        Check.sentence("5 DAYS on LEAVE that are booked from TODAY on");
        HoursBank bank = Check.bankOf(TWO);
        bank.book(0, 0, true);
        bank.book(0, 363, true);
        Check.is("with today", bank.now(5), 2);
        bank.endDay();
        Check.is("without the closed one", bank.now(5), 1);
        Check.close(bank, 362);
        Check.is("the last day", bank.now(5), 1);
        bank.endDay();
        Check.is("all are closed", bank.now(5), 0);
    }

    private static void nowCoins() {
        Check.sentence("7 COINS paid for OVERTIME, changes and SETTLED, less those DOCKED");
        HoursBank bank = Check.bankOf("bank 0 0 3 50;" + EIGHT + "notice 3 50;worker 10 364;worker 20 0;");
        bank.plan(0, 0, 10);
        Check.is("a change", bank.now(7), 10);
        bank.work(0, 12);
        bank.endDay();
        Check.is("overtime, docked", bank.now(7), 10 + 30 - 160);
        bank.leave(0);
        Check.is("settled", bank.now(7), 10 + 30 - 160 + 10);
    }

    private static void nowUndoable() {
        Check.sentence("8 what can be undone, 9 bytes of the tape");
        HoursBank bank = Check.bankOf(TWO);
        for (int i = 1; i <= 12; i++) {
            bank.work(0, i);
            Check.is("acts", bank.now(8), Math.min(i, 10));
        }
        bank.undo();
        Check.is("acts", bank.now(8), 9);
        bank.feed(0, 0, 0, 0, 0);
        bank.end(19);
        Check.is("bytes", bank.now(9), 19);
    }

    private static void nowAnotherWhat() {
        Check.sentence("NONE - 99999999 for another what");
        for (HoursBank bank : new HoursBank[] {new HoursBank(), Check.bankOf(TWO)}) {
            for (int what : new int[] {-1, 10, 11, FAR, DEEP}) {
                Check.is("now(" + what + ")", bank.now(what), -100000000);
            }
        }
    }

    // ---- worker

    private static void workerOfDaysAheadOfToday() {
        Check.sentence("8 WORKED on all DAYS ahead of TODAY");
        HoursBank bank = Check.bankOf(TWO);
        bank.work(0, 96);
        Check.is("today's", bank.worker(0, 8), 0);
        bank.endDay();
        bank.work(0, 3);
        Check.is("one closed", bank.worker(0, 8), 96);
        Check.close(bank, 362);
        bank.work(0, 5);
        Check.is("the last day's", bank.worker(0, 8), 99);
        bank.endDay();
        Check.is("all are closed", bank.worker(0, 8), 104);
        Check.is("of the other", bank.worker(1, 8), 0);
    }

    private static void workerSickDays() {
        Check.sentence("9 how many of these it was SICK");
        HoursBank bank = Check.bankOf(TWO);
        bank.sick(0, true);
        Check.is("today", bank.worker(0, 9), 0);
        bank.endDay();
        Check.is("closed", bank.worker(0, 9), 1);
        bank.book(0, 1, true);
        bank.endDay();
        Check.is("a day on leave", bank.worker(0, 9), 1);
        Check.close(bank, 361);
        bank.sick(0, true);
        bank.endDay();
        Check.is("the last day", bank.worker(0, 9), 2);
        Check.is("of the other", bank.worker(1, 9), 0);
    }

    private static void workerGone() {
        Check.sentence("11 1 if GONE");
        HoursBank bank = Check.bankOf(TWO);
        Check.is("at first", bank.worker(0, 11), 0);
        bank.leave(0);
        Check.is("gone on day 0", bank.worker(0, 11), 1);
        Check.is("the other", bank.worker(1, 11), 0);
        Check.close(bank, 364);
        bank.leave(1);
        Check.is("gone behind all", bank.worker(1, 11), 1);
    }

    private static void workerNoSuch() {
        Check.sentence("NoSuchElementException: no such one");
        HoursBank bank = Check.bankOf(TWO);
        for (int worker : NO_WORKERS) {
            for (int what = -1; what <= 12; what++) {
                int asked = what;
                Check.throwsNoSuch("worker(" + worker + ", " + what + ")", () -> bank.worker(worker, asked));
            }
        }
        HoursBank none = Check.bankOf("bank 0 0 1 0;");
        Check.throwsNoSuch("of none", () -> none.worker(0, 0));
        // One that an earlier text told is no more.
        Check.feed(bank, "bank 0 0 1 0;worker 1 0;");
        bank.text();
        Check.throwsNoSuch("of an earlier text", () -> bank.worker(1, 0));
        Check.is("the last one", bank.worker(0, 0), 0);
    }

    private static void workerAnotherWhat() {
        Check.sentence("no such one, another what");
        HoursBank bank = Check.bankOf(TWO);
        for (int what : new int[] {-1, 12, 13, FAR, DEEP}) {
            Check.throwsNoSuch("worker(0, " + what + ")", () -> bank.worker(0, what));
        }
        bank.leave(0);
        for (int what = 0; what <= 11; what++) {
            Check.is("worker(0, " + what + ") of one gone", bank.worker(0, what), what == 11 ? 1 : 0);
        }
        Check.throwsNoSuch("worker(0, 12) of one gone", () -> bank.worker(0, 12));
    }

    // ---- day

    private static void dayAsItStands() {
        Check.sentence("3 LOAD (as it stands)");
        HoursBank bank = Check.bankOf(TWO);
        bank.work(0, 5);
        Check.is("today", bank.day(0, 0, 3), 5);
        bank.work(0, 0);
        Check.is("today again", bank.day(0, 0, 3), 0);
        bank.sick(0, true);
        Check.is("sick", bank.day(0, 0, 3), 8);
        Check.is("a day to come", bank.day(0, 363, 3), 0);
        bank.book(0, 363, true);
        Check.is("one that is booked", bank.day(0, 363, 3), 0);
        Check.is("its kind", bank.day(0, 363, 2), 2);
    }

    private static void dayFlaggedAsItWasClosed() {
        Check.sentence("4 1 if it was FLAGGED as it was CLOSED");
        HoursBank bank = Check.bankOf("bank 20 30 1 50;" + EIGHT + "worker 10 364;worker 20 0;");
        bank.work(0, 51);
        Check.is("not closed", bank.day(0, 0, 4), 0);
        bank.endDay();
        Check.is("closed", bank.day(0, 0, 4), 1);
        Check.is("of the other", bank.day(1, 0, 4), 0);
        bank.work(0, 50);
        bank.endDay();
        Check.is("at LIMIT", bank.day(0, 1, 4), 0);
        Check.close(bank, 361);
        bank.work(0, 51);
        bank.endDay();
        Check.is("the last day", bank.day(0, 363, 4), 1);
        bank.undo();
        Check.is("open again", bank.day(0, 363, 4), 0);
    }

    private static void dayChanged() {
        Check.sentence("5 1 if PLANNED is CHANGED");
        HoursBank bank = Check.bankOf(TWO);
        Check.is("at first", bank.day(0, 0, 5), 0);
        bank.plan(0, 0, 9);
        bank.plan(0, 363, 0);
        Check.is("today", bank.day(0, 0, 5), 1);
        Check.is("the last day, to 0", bank.day(0, 363, 5), 1);
        Check.is("of the other", bank.day(1, 0, 5), 0);
        bank.plan(0, 0, 8);
        Check.is("changed back", bank.day(0, 0, 5), 1);
        bank.endDay();
        Check.is("closed", bank.day(0, 0, 5), 1);
    }

    private static void dayNoSuch() {
        Check.sentence("NONE: no such ones, another what.");
        HoursBank bank = Check.bankOf(TWO);
        for (int what = 0; what <= 5; what++) {
            for (int worker : NO_WORKERS) {
                Check.is("day(" + worker + ", 0, " + what + ")", bank.day(worker, 0, what), -1);
            }
            for (int day : NO_DAYS) {
                Check.is("day(0, " + day + ", " + what + ")", bank.day(0, day, what), -1);
            }
            Check.is("day(0, 0, " + what + ")", bank.day(0, 0, what), what == 0 ? 8 : 0);
            Check.is("day(1, 363, " + what + ")", bank.day(1, 363, what), what == 0 ? 8 : 0);
        }
    }

    private static void dayAnotherWhat() {
        Check.sentence("no such ones, another what.");
        HoursBank bank = Check.bankOf(TWO);
        for (int what : new int[] {-1, 6, 7, FAR, DEEP}) {
            Check.is("day(0, 0, " + what + ")", bank.day(0, 0, what), -1);
            Check.is("day(2, 364, " + what + ")", bank.day(2, 364, what), -1);
        }
    }

    // ---- load

    private static void loadOfTheWindow() {
        Check.sentence("LOADS of a WORKER on the latest WINDOW DAYS, a DAY the last, as they stand");
        HoursBank bank = Check.bankOf(TWO);
        bank.work(0, 1);
        bank.endDay();
        bank.work(0, 2);
        bank.endDay();
        bank.sick(0, true);
        bank.endDay();
        bank.work(0, 40);
        Check.is("to day 0", bank.load(0, 0), 1);
        Check.is("to day 1", bank.load(0, 1), 3);
        Check.is("to day 2", bank.load(0, 2), 1 + 2 + 8);
        Check.is("to day 3", bank.load(0, 3), 2 + 8 + 40);
        Check.is("to day 5", bank.load(0, 5), 40);
        Check.is("to day 6", bank.load(0, 6), 0);
        Check.is("to the last", bank.load(0, 363), 0);
        Check.is("of the other", bank.load(1, 3), 0);
        bank.leave(0);
        Check.is("of one gone", bank.load(0, 3), 50);
        HoursBank one = Check.bankOf("bank 0 0 1 0;worker 1 0;");
        one.work(0, 5);
        one.endDay();
        Check.is("a window of one day", one.load(0, 0), 5);
        Check.is("the day behind it", one.load(0, 1), 0);
        HoursBank wide = Check.bankOf("bank 0 0 60 0;worker 1 0;");
        wide.work(0, 5);
        Check.is("59 days behind", wide.load(0, 59), 5);
        Check.is("60 days behind", wide.load(0, 60), 0);
    }

    private static void loadNoSuch() {
        Check.sentence("as they stand. NONE: no such ones.");
        HoursBank bank = Check.bankOf(TWO);
        for (int worker : NO_WORKERS) {
            Check.is("load(" + worker + ", 0)", bank.load(worker, 0), -1);
        }
        for (int day : NO_DAYS) {
            Check.is("load(0, " + day + ")", bank.load(0, day), -1);
        }
        Check.is("load(1, 363)", bank.load(1, 363), 0);
    }

    // ---- room

    private static void roomAtMost() {
        Check.sentence("The most QUARTERS (0 to 96) that a WORKER could work TODAY without being FLAGGED");
        int[] limits = {0, 1, 95, 96, 97, 9999};
        for (int limit : limits) {
            HoursBank bank = Check.bankOf("bank 0 0 1 " + limit + ";worker 1 0;");
            int room = bank.room(0);
            Check.is("room by a LIMIT of " + limit, room, Math.min(limit, 96));
            bank.work(0, room);
            Check.is("not flagged by it", bank.endDay(), 0);
            bank.work(0, Math.min(room + 1, 96));
            Check.is("flagged by one more", bank.endDay(), limit < 96 ? 1 : 0);
        }
        HoursBank bank = Check.bankOf("bank 0 0 2 50;worker 1 0;");
        bank.work(0, 30);
        bank.endDay();
        Check.is("behind 30", bank.room(0), 20);
        bank.endDay();
        Check.is("out of the window", bank.room(0), 50);
    }

    private static void roomWhateverIsTold() {
        Check.sentence("as if TODAY were of KIND 0, whatever is told of it");
        HoursBank bank = Check.bankOf("bank 0 0 2 50;season 0 363 90 90 90 90 90 90 90;worker 1 99;");
        bank.work(0, 10);
        bank.endDay();
        Check.is("nothing told", bank.room(0), 40);
        bank.work(0, 96);
        Check.is("worked", bank.room(0), 40);
        bank.work(0, 0);
        bank.sick(0, true);
        Check.is("sick", bank.room(0), 40);
        bank.sick(0, false);
        bank.book(0, 1, true);
        Check.is("on leave", bank.room(0), 40);
    }

    private static void roomByNone() {
        Check.sentence("-2: it would be by none");
        HoursBank bank = Check.bankOf("bank 0 0 2 50;worker 1 0;");
        bank.work(0, 50);
        bank.endDay();
        Check.is("just not", bank.room(0), 0);
        Check.is("not flagged by none", bank.endDay(), 0);
        bank.work(0, 51);
        bank.endDay();
        Check.is("just so", bank.room(0), -2);
        Check.is("flagged by none", bank.endDay(), 1);
    }

    private static void roomNone() {
        Check.sentence("NONE: no such one, GONE, all is CLOSED");
        HoursBank bank = Check.bankOf(TWO);
        for (int worker : NO_WORKERS) {
            Check.is("room(" + worker + ")", bank.room(worker), -1);
        }
        bank.leave(1);
        Check.is("gone", bank.room(1), -1);
        Check.close(bank, 363);
        Check.is("the last day", bank.room(0), 50);
        bank.endDay();
        Check.is("all is closed", bank.room(0), -1);
        bank.undo();
        Check.is("the last day again", bank.room(0), 50);
    }

    // ---- planned

    private static void plannedTogether() {
        Check.sentence("PLANNED of a WORKER on DAYS from one to another, together");
        HoursBank bank = Check.bankOf("bank 0 0 1 0;season 0 363 1 2 3 4 5 6 96;worker 1 96;worker 1 0;");
        Check.is("one day", bank.planned(0, 0, 0), 1);
        Check.is("the last day", bank.planned(0, 363, 363), 96);
        Check.is("two days", bank.planned(0, 6, 7), 97);
        Check.is("the year", bank.planned(0, 0, 363), 52 * 117);
        bank.book(0, 6, true);
        Check.is("with one on leave", bank.planned(0, 0, 6), 117);
        bank.plan(1, 0, 9);
        Check.is("with one changed", bank.planned(1, 0, 6), 125);
        bank.leave(1);
        Check.close(bank, 3);
        Check.is("of one gone, and closed days", bank.planned(1, 0, 6), 125);
        HoursBank most = Check.bankOf("bank 0 0 1 0;season 0 363 96 96 96 96 96 96 96;worker 1 0;");
        Check.is("the most", most.planned(0, 0, 363), 364 * 96);
    }

    private static void plannedNone() {
        Check.sentence("NONE: no such ones, the first is later");
        HoursBank bank = Check.bankOf(TWO);
        for (int worker : NO_WORKERS) {
            Check.is("planned(" + worker + ", 0, 1)", bank.planned(worker, 0, 1), -1);
        }
        for (int day : NO_DAYS) {
            Check.is("planned(0, " + day + ", 363)", bank.planned(0, day, 363), -1);
            Check.is("planned(0, 0, " + day + ")", bank.planned(0, 0, day), -1);
            Check.is("planned(0, " + day + ", " + day + ")", bank.planned(0, day, day), -1);
        }
        Check.is("planned(0, 1, 0)", bank.planned(0, 1, 0), -1);
        Check.is("planned(0, 363, 362)", bank.planned(0, 363, 362), -1);
        Check.is("planned(0, 363, 0)", bank.planned(0, 363, 0), -1);
    }

    // ---- reaches

    private static void reachesFirstDay() {
        Check.sentence("The first DAY from TODAY on, behind which BALANCE would pass HIGH or be below 0 less LOW");
        HoursBank bank = Check.bankOf("bank 20 30 1 99;season 0 363 32 32 32 32 32 32 32;worker 1 0;");
        Check.is("31 at once", bank.reaches(0, 31), 0);
        Check.is("30 is HIGH itself", bank.reaches(0, 30), 1);
        Check.is("15 is HIGH on the second", bank.reaches(0, 15), 2);
        Check.is("16 passes on the second", bank.reaches(0, 16), 1);
        Check.is("-21 at once", bank.reaches(0, -21), 0);
        Check.is("-20 is the bound itself", bank.reaches(0, -20), 1);
        Check.is("-10 is the bound on the second", bank.reaches(0, -10), 2);
        Check.is("-11 passes on the second", bank.reaches(0, -11), 1);
        HoursBank tight = Check.bankOf("bank 0 0 1 99;season 0 363 32 32 32 32 32 32 32;worker 1 0;");
        Check.is("1 by bounds of 0", tight.reaches(0, 1), 0);
        Check.is("-1 by bounds of 0", tight.reaches(0, -1), 0);
    }

    private static void reachesBehindADay() {
        Check.sentence("The first DAY from TODAY on");
        HoursBank bank = Check.bankOf("bank 20 30 1 99;season 0 363 32 32 32 32 32 32 32;worker 1 0;");
        bank.work(0, 96);
        Check.is("today by its plan, not by what is told", bank.reaches(0, 16), 1);
        bank.endDay();
        Check.is("from HIGH on", bank.reaches(0, 1), 1);
        Check.is("from HIGH down", bank.reaches(0, -25), 3);
        Check.close(bank, 362);
        Check.is("the last day", bank.now(0), 363);
        Check.is("down on the last day", bank.reaches(0, -1), 363);
        HoursBank late = Check.bankOf("bank 0 363 1 99;worker 1 0;");
        Check.is("on the last day", late.reaches(0, 1), 363);
    }

    private static void reachesWithinADay() {
        Check.sentence("(-96 to 96) QUARTERS more than PLANNED each DAY (0 to 96 in all)");
        HoursBank bank = Check.bankOf("bank 20 30 1 99;season 0 363 90 4 0 0 0 0 0;worker 1 0;");
        Check.is("6, then 25", bank.reaches(0, 25), 1);
        Check.is("6, then 24: HIGH, then more", bank.reaches(0, 24), 2);
        Check.is("96 in all, then 92 more", bank.reaches(0, 96), 1);
        Check.is("-17, then -4", bank.reaches(0, -17), 1);
        Check.is("-16, then -4: the bound, then the next week", bank.reaches(0, -16), 7);
        HoursBank idle = Check.bankOf("bank 0 0 1 99;worker 1 0;");
        Check.is("no less than 0", idle.reaches(0, -96), -2);
        Check.is("96 from 0", idle.reaches(0, 96), 0);
        HoursBank busy = Check.bankOf("bank 0 0 1 99;season 0 363 96 96 96 96 96 96 96;worker 1 0;");
        Check.is("no more than 96", busy.reaches(0, 96), -2);
        Check.is("-96 from 96", busy.reaches(0, -96), 0);
        HoursBank wide = Check.bankOf("bank 95 95 1 99;season 0 363 96 0 0 0 0 0 0;worker 1 0;");
        Check.is("-96 as a whole", wide.reaches(0, -96), 0);
        Check.is("-95 at the bound", wide.reaches(0, -95), 7);
        Check.is("96 on day 1", wide.reaches(0, 96), 1);
        Check.is("95 at the bound, then more", wide.reaches(0, 95), 2);
    }

    private static void reachesPassesOver() {
        Check.sentence("but for DAYS that are booked, and SICK TODAY");
        HoursBank bank = Check.bankOf("bank 20 30 1 99;" + EIGHT + "worker 1 99;");
        Check.is("31 at once", bank.reaches(0, 31), 0);
        bank.book(0, 0, true);
        Check.is("today is booked", bank.reaches(0, 31), 1);
        bank.book(0, 1, true);
        Check.is("tomorrow too", bank.reaches(0, 31), 2);
        bank.book(0, 0, false);
        Check.is("tomorrow alone", bank.reaches(0, 30), 2);
        bank.sick(0, true);
        Check.is("sick today", bank.reaches(0, 31), 2);
        Check.is("sick today, below", bank.reaches(0, -8), 4);
    }

    private static void reachesNever() {
        Check.sentence("-2: none. NONE: no such one, GONE, another extra");
        HoursBank bank = Check.bankOf("bank 364 364 1 99;" + EIGHT + "worker 1 99;");
        Check.is("by none", bank.reaches(0, 0), -2);
        Check.is("at HIGH on the last day", bank.reaches(0, 1), -2);
        Check.is("at the bound on the last day", bank.reaches(0, -1), -2);
        Check.close(bank, 364);
        Check.is("all is closed", bank.reaches(0, 96), -2);
        Check.is("all is closed, below", bank.reaches(0, -96), -2);
        HoursBank tight = Check.bankOf("bank 0 0 1 99;" + EIGHT + "worker 1 99;");
        Check.is("by none, by bounds of 0", tight.reaches(0, 0), -2);
    }

    private static void reachesNone() {
        Check.sentence("NONE: no such one, GONE, another extra");
        HoursBank bank = Check.bankOf(TWO);
        for (int worker : NO_WORKERS) {
            Check.is("reaches(" + worker + ", 0)", bank.reaches(worker, 0), -1);
        }
        for (int extra : new int[] {-97, 97, FAR, DEEP}) {
            Check.is("reaches(0, " + extra + ")", bank.reaches(0, extra), -1);
        }
        bank.leave(1);
        Check.is("gone", bank.reaches(1, 0), -1);
        Check.close(bank, 364);
        Check.is("another extra, all is closed", bank.reaches(0, 97), -1);
        Check.is("gone, all is closed", bank.reaches(1, 0), -1);
    }

    // ---- cost, due

    private static void costWouldBe() {
        Check.sentence("What it would cost, were a plan CHANGED to so many QUARTERS");
        HoursBank bank = Check.bankOf(TWO);
        Check.is("today to 96", bank.cost(0, 0, 96), 440);
        Check.is("today to 0", bank.cost(0, 0, 0), 40);
        Check.is("2 ahead", bank.cost(1, 2, 0), 80);
        Check.is("3 ahead", bank.cost(1, 3, 0), 0);
        Check.is("the last day", bank.cost(0, 363, 96), 0);
        bank.sick(0, true);
        Check.is("when sick", bank.cost(0, 0, 0), 40);
        bank.sick(0, false);
        bank.work(0, 5);
        Check.is("when worked", bank.cost(0, 0, 0), 40);
        Check.is("plan() costs it", bank.plan(0, 0, 0), 40);
    }

    private static void costNone() {
        Check.sentence("NONE: it can't be (as plan())");
        HoursBank bank = Check.bankOf(TWO);
        bank.endDay();
        bank.book(0, 5, true);
        for (int worker : NO_WORKERS) {
            Check.is("cost(" + worker + ", 1, 0)", bank.cost(worker, 1, 0), -1);
        }
        for (int day : NO_DAYS) {
            Check.is("cost(0, " + day + ", 0)", bank.cost(0, day, 0), -1);
        }
        for (int quarters : new int[] {-1, 97, FAR, DEEP}) {
            Check.is("cost(0, 1, " + quarters + ")", bank.cost(0, 1, quarters), -1);
        }
        Check.is("a closed day", bank.cost(0, 0, 0), -1);
        Check.is("on leave", bank.cost(0, 5, 0), -1);
        bank.leave(1);
        Check.is("gone", bank.cost(1, 1, 0), -1);
        Check.close(bank, 363);
        Check.is("all is closed", bank.cost(0, 363, 0), -1);
        Check.is("day 364", bank.cost(0, 364, 0), -1);
    }

    private static void dueNow() {
        Check.sentence("What would be SETTLED, if a WORKER left now");
        HoursBank bank = Check.bankOf(TWO);
        bank.work(0, 20);
        bank.book(0, 1, true);
        Check.is("day 0", bank.due(0), 0);
        bank.endDay();
        Check.is("balance and leave earned", bank.due(0), 10 * 12 + 10 * 1);
        Check.is("below 0", bank.due(1), 20 * -8);
        bank.endDay();
        Check.is("leave taken", bank.due(0), 10 * 12 + 10 * (2 - 8));
        Check.close(bank, 362);
        Check.is("all is closed", bank.due(0), 10 * -20 + 10 * (364 - 8));
        Check.is("leave() settles it", bank.leave(0), 3360);
    }

    private static void dueNoSuch() {
        Check.sentence("NoSuchElementException: no such one, GONE");
        HoursBank bank = Check.bankOf(TWO);
        for (int worker : NO_WORKERS) {
            Check.throwsNoSuch("due(" + worker + ")", () -> bank.due(worker));
        }
        bank.leave(0);
        Check.throwsNoSuch("due of one gone", () -> bank.due(0));
        Check.is("due of the other", bank.due(1), 0);
        bank.undo();
        Check.is("due of one back", bank.due(0), 0);
        HoursBank empty = new HoursBank();
        Check.throwsNoSuch("due of none", () -> empty.due(0));
    }

    /** Asking is no act: what the acts changed stays, and nothing more can be undone. */
    private static void askingChangesNothing() {
        Check.sentence("The latest plan(), work(), sick(), book(), endDay(), leave() that was done");
        HoursBank bank = Check.bankOf(TWO);
        bank.work(0, 5);
        bank.now(0);
        bank.worker(0, 0);
        bank.day(0, 0, 0);
        bank.load(0, 0);
        bank.room(0);
        bank.planned(0, 0, 1);
        bank.reaches(0, 96);
        bank.cost(0, 0, 50);
        bank.due(0);
        bank.fault();
        bank.feed(0, 0, 0, 0, 0);
        bank.end(3);
        Check.is("acts", bank.now(8), 1);
        Check.is("changed plans", bank.now(4), 0);
        Check.is("coins", bank.now(7), 0);
        Check.is("today", bank.now(0), 0);
        Check.is("gone", bank.worker(0, 11), 0);
        Check.is("undo()", bank.undo(), 0);
        Check.is("bytes of the tape", bank.now(9), 3);
    }
}
