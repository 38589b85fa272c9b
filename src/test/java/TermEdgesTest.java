/** The edges that the document's terms name for days, balances, loads, coins and leaving, sentence by sentence. */
public final class TermEdgesTest {
    private static final String EIGHT = "season 0 363 8 8 8 8 8 8 8;";

    public static void main(String[] args) {
        allAreClosed();
        changedPlans();
        latestSeason();
        seasonsEnds();
        dayModuloSeven();
        withoutSeason();
        workedIfNoneWereTold();
        workedOfOtherKinds();
        leftByClosedAndBooked();
        closedForThoseNotGone();
        balanceAtFirst();
        aboveHigh();
        belowLow();
        boundsOfZero();
        widestBounds();
        balanceStays();
        loadsByKind();
        flaggedAboveLimit();
        asManyDaysAsThereAre();
        widestWindow();
        overtimeRoundedEachTime();
        dockedIsNotRounded();
        noticeWithMoreDays();
        greatestPercent();
        percentWithout();
        costByHowMuch();
        costRoundedDown();
        earnedRoundedDown();
        settledLessClosedLeave();
        settledBelowZero();
        behindLeaving();
        bookedTodayWhenLeaving();
        toldStaysWhenLeaving();
        throwingChangesNothing();
        Check.finish();
    }

    // ---- days and plans

    private static void allAreClosed() {
        Check.sentence("TODAY is the first one that is not CLOSED (364: all are)");
        HoursBank bank = Check.bankOf("bank 0 0 1 0;worker 1 0;");
        for (int day = 0; day < 364; day++) {
            Check.is("today", bank.now(0), day);
            bank.endDay();
        }
        Check.is("today", bank.now(0), 364);
        bank.endDay();
        Check.is("today behind all", bank.now(0), 364);
    }

    private static void changedPlans() {
        Check.sentence("what it was CHANGED to, else");
        HoursBank bank = Check.bankOf("bank 0 0 1 0;" + EIGHT + "worker 1 0;worker 1 0;");
        bank.plan(0, 3, 0);
        bank.plan(0, 4, 96);
        bank.plan(0, 4, 95);
        Check.is("changed to 0", bank.day(0, 3, 0), 0);
        Check.is("changed twice", bank.day(0, 4, 0), 95);
        Check.is("another day", bank.day(0, 5, 0), 8);
        Check.is("another worker", bank.day(1, 3, 0), 8);
    }

    private static void latestSeason() {
        Check.sentence("else by the latest 'season' told that has the DAY");
        HoursBank bank = Check.bankOf("bank 0 0 1 0;season 5 9 1 1 1 1 1 1 1;season 0 20 2 2 2 2 2 2 2;"
            + "season 8 10 0 0 0 0 0 0 0;season 30 40 4 4 4 4 4 4 4;season 10 12 5 5 5 5 5 5 5;worker 1 0;");
        Check.is("wider, but later told", bank.day(0, 5, 0), 2);
        Check.is("later told, of 0", bank.day(0, 8, 0), 0);
        Check.is("the latest of three", bank.day(0, 10, 0), 5);
        Check.is("the only one", bank.day(0, 35, 0), 4);
    }

    private static void seasonsEnds() {
        Check.sentence("(from FROM to TO)");
        HoursBank bank = Check.bankOf("bank 0 0 1 0;season 10 12 9 9 9 9 9 9 9;season 0 0 3 3 3 3 3 3 3;"
            + "season 363 363 4 4 4 4 4 4 4;worker 1 0;");
        int[] days = {0, 1, 9, 10, 11, 12, 13, 362, 363};
        int[] due = {3, 0, 0, 9, 9, 9, 0, 0, 4};
        for (int i = 0; i < days.length; i++) {
            Check.is("day " + days[i], bank.day(0, days[i], 0), due[i]);
        }
    }

    private static void dayModuloSeven() {
        Check.sentence("Q of the DAY modulo 7");
        HoursBank bank = Check.bankOf("bank 0 0 1 0;season 3 363 10 11 12 13 14 15 96;worker 1 0;");
        Check.is("FROM's own", bank.day(0, 3, 0), 13);
        Check.is("day 6", bank.day(0, 6, 0), 96);
        Check.is("day 7", bank.day(0, 7, 0), 10);
        Check.is("day 8", bank.day(0, 8, 0), 11);
        Check.is("day 362", bank.day(0, 362, 0), 15);
        Check.is("day 363", bank.day(0, 363, 0), 96);
    }

    private static void withoutSeason() {
        Check.sentence("0 without.");
        HoursBank bank = Check.bankOf("bank 0 0 1 0;worker 1 0;");
        Check.is("day 0", bank.day(0, 0, 0), 0);
        Check.is("day 363", bank.day(0, 363, 0), 0);
        Check.is("the year", bank.planned(0, 0, 363), 0);
    }

    // ---- kinds, worked, leave

    private static void workedIfNoneWereTold() {
        Check.sentence("WORKED: QUARTERS (0 to 96; 0, if none were told");
        HoursBank bank = Check.bankOf("bank 99 99 1 0;" + EIGHT + "worker 1 0;");
        bank.endDay();
        Check.is("worked", bank.day(0, 0, 1), 0);
        Check.is("balance", bank.worker(0, 0), -8);
        bank.work(0, 96);
        bank.endDay();
        Check.is("worked 96", bank.day(0, 1, 1), 96);
        Check.is("balance", bank.worker(0, 0), 80);
        bank.work(0, 96);
        bank.work(0, 0);
        bank.endDay();
        Check.is("worked 0", bank.day(0, 2, 1), 0);
        Check.is("balance", bank.worker(0, 0), 72);
    }

    private static void workedOfOtherKinds() {
        Check.sentence("of KIND 1, 2 none");
        HoursBank bank = Check.bankOf("bank 99 99 1 0;" + EIGHT + "worker 1 99;");
        bank.sick(0, true);
        Check.is("kind", bank.day(0, 0, 2), 1);
        Check.is("worked when sick", bank.day(0, 0, 1), 0);
        bank.endDay();
        bank.book(0, 1, true);
        Check.is("kind", bank.day(0, 1, 2), 2);
        Check.is("worked on leave", bank.day(0, 1, 1), 0);
        bank.endDay();
        Check.is("worked in all", bank.worker(0, 8), 0);
    }

    private static void leftByClosedAndBooked() {
        Check.sentence("LEAVE less what is PLANNED on all DAYS on LEAVE, those CLOSED and those booked");
        HoursBank bank = Check.bankOf("bank 99 99 1 0;season 0 363 1 2 4 8 16 32 64;worker 1 200;");
        bank.book(0, 0, true);
        bank.book(0, 1, true);
        bank.book(0, 363, true);
        Check.is("booked", bank.worker(0, 1), 200 - 1 - 2 - 64);
        bank.endDay();
        Check.is("one closed", bank.worker(0, 1), 200 - 1 - 2 - 64);
        bank.plan(0, 2, 90);
        bank.book(0, 2, true);
        Check.is("by a changed plan", bank.worker(0, 1), 133 - 90);
        bank.book(0, 1, false);
        Check.is("one back", bank.worker(0, 1), 45);
        Check.close(bank, 363);
        Check.is("all closed", bank.worker(0, 1), 45);
    }

    // ---- closing

    private static void closedForThoseNotGone() {
        Check.sentence("A DAY is CLOSED: of each WORKER that is not GONE");
        HoursBank bank = Check.bankOf("bank 9 9 1 5;" + EIGHT + "worker 3 0;worker 3 0;");
        bank.work(0, 40);
        bank.work(1, 40);
        bank.leave(0);
        Check.is("one flagged", bank.endDay(), 1);
        Check.is("balance of one gone", bank.worker(0, 0), 0);
        Check.is("its overtime", bank.worker(0, 2), 0);
        Check.is("its coins", bank.worker(0, 4), 0);
        Check.is("its flagged days", bank.worker(0, 10), 0);
        Check.is("its day", bank.day(0, 0, 4), 0);
        Check.is("balance of the other", bank.worker(1, 0), 9);
        bank.endDay();
        bank.endDay();
        Check.is("docked of one gone", bank.worker(0, 3), 0);
        Check.is("docked of the other", bank.worker(1, 3), 0);
        bank.endDay();
        Check.is("docked of the other", bank.worker(1, 3), 6);
    }

    private static void balanceAtFirst() {
        Check.sentence("BALANCE (0 at first) is WORKED less PLANNED more");
        HoursBank bank = Check.bankOf("bank 99 99 1 99;" + EIGHT + "worker 1 0;");
        Check.is("at first", bank.worker(0, 0), 0);
        closeWith(bank, 8);
        Check.is("as planned", bank.worker(0, 0), 0);
        closeWith(bank, 9);
        Check.is("one more", bank.worker(0, 0), 1);
        closeWith(bank, 6);
        Check.is("two less", bank.worker(0, 0), -1);
    }

    private static void aboveHigh() {
        Check.sentence("what it is above HIGH then is OVERTIME (QUARTERS; BALANCE is HIGH)");
        HoursBank bank = Check.bankOf("bank 20 30 1 99;" + EIGHT + "worker 2 0;");
        closeWith(bank, 37);
        Check.is("one below HIGH", bank.worker(0, 0), 29);
        closeWith(bank, 9);
        Check.is("HIGH", bank.worker(0, 0), 30);
        Check.is("no overtime", bank.worker(0, 2), 0);
        closeWith(bank, 9);
        Check.is("HIGH still", bank.worker(0, 0), 30);
        Check.is("overtime", bank.worker(0, 2), 1);
        Check.is("coins", bank.worker(0, 4), 3);
        closeWith(bank, 96);
        Check.is("overtime", bank.worker(0, 2), 89);
        Check.is("nothing docked", bank.worker(0, 3), 0);
    }

    private static void belowLow() {
        Check.sentence("what it is below 0 less LOW is DOCKED (BALANCE is 0 less LOW)");
        HoursBank bank = Check.bankOf("bank 20 30 1 99;" + EIGHT + "worker 2 0;");
        closeWith(bank, 0);
        closeWith(bank, 0);
        closeWith(bank, 5);
        Check.is("one above", bank.worker(0, 0), -19);
        closeWith(bank, 7);
        Check.is("0 less LOW", bank.worker(0, 0), -20);
        Check.is("nothing docked", bank.worker(0, 3), 0);
        closeWith(bank, 7);
        Check.is("0 less LOW still", bank.worker(0, 0), -20);
        Check.is("docked", bank.worker(0, 3), 1);
        Check.is("coins", bank.worker(0, 6), 2);
        closeWith(bank, 0);
        Check.is("docked", bank.worker(0, 3), 9);
        Check.is("no overtime", bank.worker(0, 2), 0);
    }

    private static void boundsOfZero() {
        Check.sentence("(0 to 9999, 0 to 9999, 1 to 60, 0 to 9999)");
        HoursBank bank = Check.bankOf("bank 0 0 1 0;" + EIGHT + "worker 1 0;");
        closeWith(bank, 9);
        Check.is("balance", bank.worker(0, 0), 0);
        Check.is("overtime", bank.worker(0, 2), 1);
        closeWith(bank, 7);
        Check.is("balance", bank.worker(0, 0), 0);
        Check.is("docked", bank.worker(0, 3), 1);
        Check.is("above a LIMIT of 0", bank.now(6), 2);
        closeWith(bank, 0);
        Check.is("at a LIMIT of 0", bank.now(6), 2);
    }

    private static void widestBounds() {
        Check.sentence("(BALANCE is 0 less LOW)");
        HoursBank poor = Check.bankOf("bank 9999 0 1 99;season 0 363 0 96 96 96 96 96 96;worker 999 0;");
        Check.close(poor, 364);
        Check.is("at -9999", poor.worker(0, 0), -9999);
        Check.is("docked", poor.worker(0, 3), 312 * 96 - 9999);
        Check.is("its coins", poor.worker(0, 6), (312 * 96 - 9999) * 999);
        Check.is("settled", poor.leave(0), -9999 * 999);
        Check.is("coins of all", poor.now(7), -312 * 96 * 999);
        HoursBank rich = Check.bankOf("bank 0 9999 1 99;worker 999 0;");
        for (int day = 0; day < 105; day++) {
            closeWith(rich, 96);
        }
        Check.is("at 9999", rich.worker(0, 0), 9999);
        Check.is("overtime", rich.worker(0, 2), 81);
        Check.is("settled", rich.leave(0), 9999 * 999);
    }

    private static void balanceStays() {
        Check.sentence("KIND 1, 2: BALANCE stays");
        HoursBank bank = Check.bankOf("bank 20 30 1 99;" + EIGHT + "worker 2 99;");
        closeWith(bank, 38);
        bank.sick(0, true);
        bank.endDay();
        Check.is("sick", bank.worker(0, 0), 30);
        bank.book(0, 2, true);
        bank.endDay();
        Check.is("on leave", bank.worker(0, 0), 30);
        Check.is("overtime", bank.worker(0, 2), 0);
        Check.is("docked", bank.worker(0, 3), 0);
    }

    // ---- loads

    private static void loadsByKind() {
        Check.sentence("LOAD of a DAY: WORKED, of KIND 1 what was PLANNED, of KIND 2 0.");
        HoursBank bank = Check.bankOf("bank 20 30 1 99;" + EIGHT + "worker 2 99;");
        Check.is("none told", bank.day(0, 0, 3), 0);
        bank.work(0, 13);
        Check.is("worked", bank.day(0, 0, 3), 13);
        bank.endDay();
        bank.sick(0, true);
        Check.is("sick", bank.day(0, 1, 3), 8);
        bank.plan(0, 1, 11);
        Check.is("sick, another plan", bank.day(0, 1, 3), 11);
        bank.endDay();
        bank.book(0, 2, true);
        Check.is("on leave", bank.day(0, 2, 3), 0);
        bank.endDay();
        Check.is("worked, closed", bank.day(0, 0, 3), 13);
        Check.is("sick, closed", bank.day(0, 1, 3), 11);
        Check.is("on leave, closed", bank.day(0, 2, 3), 0);
    }

    private static void flaggedAboveLimit() {
        Check.sentence("together are above LIMIT");
        HoursBank bank = Check.bankOf("bank 99 99 3 30;season 0 363 12 12 12 12 12 12 12;worker 2 99;");
        closeWith(bank, 10);
        closeWith(bank, 10);
        bank.work(0, 10);
        Check.is("at LIMIT", bank.endDay(), 0);
        bank.work(0, 11);
        Check.is("above LIMIT", bank.endDay(), 1);
        bank.sick(0, true);
        Check.is("by a sick day", bank.endDay(), 1);
        Check.is("its mark", bank.day(0, 4, 4), 1);
        bank.work(0, 20);
        Check.is("again", bank.endDay(), 1);
        bank.book(0, 6, true);
        Check.is("on leave, by the days ahead of it", bank.endDay(), 1);
        Check.is("its mark", bank.day(0, 6, 4), 1);
        Check.is("in all", bank.worker(0, 10), 4);
    }

    private static void asManyDaysAsThereAre() {
        Check.sentence("the latest WINDOW DAYS, that one the last (as many as there are)");
        HoursBank bank = Check.bankOf("bank 99 99 2 30;worker 2 99;");
        bank.work(0, 30);
        Check.is("day 0 alone, at LIMIT", bank.endDay(), 0);
        bank.work(0, 1);
        Check.is("two days", bank.endDay(), 1);
        bank.work(0, 29);
        Check.is("not three", bank.endDay(), 0);
        HoursBank one = Check.bankOf("bank 99 99 1 30;worker 2 99;");
        one.work(0, 30);
        one.endDay();
        one.work(0, 30);
        Check.is("a window of one day", one.endDay(), 0);
        HoursBank first = Check.bankOf("bank 99 99 60 30;worker 2 99;");
        first.work(0, 31);
        Check.is("a wide window on day 0", first.endDay(), 1);
    }

    private static void widestWindow() {
        Check.sentence("the latest WINDOW DAYS, that one the last");
        HoursBank bank = Check.bankOf("bank 99 99 60 95;worker 2 99;");
        bank.work(0, 96);
        for (int day = 0; day < 60; day++) {
            Check.is("day " + day, bank.endDay(), 1);
        }
        Check.is("day 60", bank.endDay(), 0);
        Check.is("in all", bank.now(6), 60);
    }

    // ---- coins

    private static void overtimeRoundedEachTime() {
        Check.sentence("of OVERTIME each time QUARTERS times RATE times 3 by 2, rounded down");
        HoursBank bank = Check.bankOf("bank 0 0 1 99;worker 3 0;worker 1 0;worker 999 0;");
        for (int i = 1; i <= 3; i++) {
            bank.work(1, 1);
            bank.work(2, 96);
            closeWith(bank, 1);
            Check.is("coins of 1 by 3", bank.worker(0, 4), 4 * i);
            Check.is("coins of 1 by 1", bank.worker(1, 4), i);
            Check.is("coins of 96 by 999", bank.worker(2, 4), 143856 * i);
        }
        closeWith(bank, 3);
        Check.is("coins of 3 by 3", bank.worker(0, 4), 12 + 13);
        Check.is("overtime", bank.worker(0, 2), 6);
    }

    private static void dockedIsNotRounded() {
        Check.sentence("DOCKED: QUARTERS times RATE");
        HoursBank bank = Check.bankOf("bank 0 0 1 99;season 0 363 1 96 3 0 0 0 0;worker 3 0;");
        bank.endDay();
        Check.is("of 1", bank.worker(0, 6), 3);
        bank.endDay();
        Check.is("of 96", bank.worker(0, 6), 3 + 288);
        bank.endDay();
        Check.is("of 3", bank.worker(0, 6), 3 + 288 + 9);
        Check.is("paid less docked", bank.now(7), -300);
    }

    private static void noticeWithMoreDays() {
        Check.sentence("those 'notice' LINES with more DAYS than that");
        HoursBank bank = Check.bankOf("bank 0 0 1 99;notice 3 100;worker 1 0;");
        Check.is("0 ahead", bank.cost(0, 0, 5), 5);
        Check.is("2 ahead", bank.cost(0, 2, 5), 5);
        Check.is("3 ahead", bank.cost(0, 3, 5), 0);
        bank.endDay();
        Check.is("2 ahead a day later", bank.cost(0, 3, 5), 5);
        Check.is("3 ahead a day later", bank.cost(0, 4, 5), 0);
        HoursBank one = Check.bankOf("bank 0 0 1 99;notice 1 100;worker 1 0;");
        Check.is("a notice of 1, today", one.cost(0, 0, 5), 5);
        Check.is("a notice of 1, tomorrow", one.cost(0, 1, 5), 0);
        HoursBank wide = Check.bankOf("bank 0 0 1 99;notice 60 100;worker 1 0;");
        Check.is("a notice of 60, 59 ahead", wide.cost(0, 59, 5), 5);
        Check.is("a notice of 60, 60 ahead", wide.cost(0, 60, 5), 0);
    }

    private static void greatestPercent() {
        Check.sentence("the greatest PERCENT of those 'notice' LINES");
        HoursBank rising = Check.bankOf("bank 0 0 1 99;notice 1 100;notice 2 200;notice 3 300;worker 1 0;");
        HoursBank falling = Check.bankOf("bank 0 0 1 99;notice 3 100;notice 2 200;notice 1 300;worker 1 0;");
        HoursBank middle = Check.bankOf("bank 0 0 1 99;notice 3 100;notice 3 300;notice 3 200;worker 1 0;");
        for (int day = 0; day <= 3; day++) {
            Check.is("rising, " + day + " ahead", rising.cost(0, day, 1), day < 3 ? 3 : 0);
            Check.is("falling, " + day + " ahead", falling.cost(0, day, 1), 3 - day);
            Check.is("the middle one, " + day + " ahead", middle.cost(0, day, 1), day < 3 ? 3 : 0);
        }
    }

    private static void percentWithout() {
        Check.sentence("(0 without)");
        HoursBank bank = Check.bankOf("bank 0 0 1 99;worker 999 0;");
        Check.is("without a notice", bank.plan(0, 0, 96), 0);
        Check.is("coins", bank.worker(0, 5), 0);
        HoursBank free = Check.bankOf("bank 0 0 1 99;notice 60 0;worker 999 0;");
        Check.is("by a PERCENT of 0", free.plan(0, 0, 96), 0);
    }

    private static void costByHowMuch() {
        Check.sentence("times RATE times by how much PLANNED is another");
        HoursBank bank = Check.bankOf("bank 0 0 1 99;" + EIGHT + "notice 60 100;worker 7 0;");
        Check.is("more", bank.cost(0, 0, 10), 14);
        Check.is("less", bank.cost(0, 0, 6), 14);
        Check.is("the same", bank.cost(0, 0, 8), 0);
        Check.is("the most", bank.cost(0, 0, 96), 616);
        Check.is("none", bank.cost(0, 0, 0), 56);
        bank.plan(0, 0, 10);
        Check.is("from a changed one", bank.cost(0, 0, 8), 14);
    }

    private static void costRoundedDown() {
        Check.sentence("by 100, rounded down");
        HoursBank bank = Check.bankOf("bank 0 0 1 99;notice 1 99;notice 2 33;notice 3 1;worker 1 0;worker 999 0;");
        Check.is("0.99", bank.cost(0, 0, 1), 0);
        Check.is("1.98", bank.cost(0, 0, 2), 1);
        Check.is("0.99 by three", bank.cost(0, 1, 3), 0);
        Check.is("1.32", bank.cost(0, 1, 4), 1);
        Check.is("0.96", bank.cost(0, 2, 96), 0);
        Check.is("9.99", bank.cost(1, 2, 1), 9);
        Check.is("949.44 by 100", bank.cost(1, 0, 96), 94944);
        bank.plan(0, 0, 1);
        bank.plan(0, 0, 0);
        Check.is("each is rounded for itself", bank.worker(0, 5), 0);
    }

    // ---- leaving

    private static void earnedRoundedDown() {
        Check.sentence("LEAVE times TODAY by 364, rounded down");
        HoursBank bank = Check.bankOf("bank 0 0 1 99;worker 10 363;worker 10 364;worker 10 9999;worker 10 0;");
        Check.is("on day 0", bank.due(2), 0);
        bank.endDay();
        Check.is("0.997", bank.due(0), 0);
        Check.is("1", bank.due(1), 10);
        Check.is("27.47", bank.due(2), 270);
        Check.is("of no leave", bank.due(3), 0);
        bank.endDay();
        Check.is("1.99", bank.due(0), 10);
        Check.close(bank, 361);
        Check.is("362.003", bank.due(0), 3620);
        Check.is("9971.5", bank.due(2), 99710);
        bank.endDay();
        Check.is("all", bank.due(0), 3630);
        Check.is("all", bank.due(2), 99990);
    }

    private static void settledLessClosedLeave() {
        Check.sentence("less what is PLANNED on DAYS on LEAVE that are CLOSED");
        HoursBank bank = Check.bankOf("bank 0 0 1 99;" + EIGHT + "worker 10 3640;");
        bank.book(0, 0, true);
        bank.book(0, 1, true);
        bank.book(0, 300, true);
        Check.is("none closed", bank.due(0), 0);
        bank.endDay();
        Check.is("one closed", bank.due(0), 10 * (10 - 8));
        bank.endDay();
        Check.is("two closed", bank.due(0), 10 * (20 - 16));
        Check.is("leave", bank.leave(0), 40);
    }

    private static void settledBelowZero() {
        Check.sentence("SETTLED is BALANCE times RATE, and RATE times what of LEAVE was earned");
        HoursBank bank = Check.bankOf("bank 50 50 1 99;" + EIGHT + "worker 10 3640;worker 7 8;");
        bank.book(1, 0, true);
        bank.endDay();
        Check.is("balance below 0, leave above", bank.leave(0), 10 * -8 + 10 * 10);
        Check.is("more leave taken than earned", bank.leave(1), 7 * -8);
        Check.is("coins of all", bank.now(7), 20 - 56);
        HoursBank other = Check.bankOf("bank 50 50 1 99;worker 10 3640;");
        closeWith(other, 9);
        Check.is("both above", other.leave(0), 190);
    }

    private static void behindLeaving() {
        Check.sentence("then BALANCE is 0, no DAY from TODAY on is booked, LEFT is 0");
        HoursBank bank = Check.bankOf("bank 50 50 1 99;" + EIGHT + "worker 10 3640;worker 10 3640;");
        bank.book(0, 0, true);
        bank.book(1, 0, true);
        bank.endDay();
        closeWith(bank, 9);
        bank.book(0, 2, true);
        bank.book(0, 3, true);
        bank.book(0, 363, true);
        bank.book(1, 3, true);
        bank.leave(0);
        Check.is("balance", bank.worker(0, 0), 0);
        Check.is("left", bank.worker(0, 1), 0);
        Check.is("today", bank.day(0, 2, 2), 0);
        Check.is("tomorrow", bank.day(0, 3, 2), 0);
        Check.is("the last day", bank.day(0, 363, 2), 0);
        Check.is("one closed stays", bank.day(0, 0, 2), 2);
        Check.is("booked of the other", bank.now(5), 1);
        Check.is("left of the other", bank.worker(1, 1), 3624);
        Check.close(bank, 3);
        Check.is("behind the days that were booked", bank.day(0, 3, 2), 0);
        Check.is("left", bank.worker(0, 1), 0);
    }

    private static void bookedTodayWhenLeaving() {
        Check.sentence("no DAY from TODAY on is booked");
        HoursBank bank = Check.bankOf("bank 50 50 1 99;" + EIGHT + "worker 10 3640;");
        bank.book(0, 0, true);
        Check.is("nothing of today is settled", bank.leave(0), 0);
        Check.is("kind", bank.day(0, 0, 2), 0);
        Check.is("booked", bank.now(5), 0);
        bank.endDay();
        Check.is("kind a day later", bank.day(0, 0, 2), 0);
    }

    private static void toldStaysWhenLeaving() {
        Check.sentence("(what was WORKED, SICK stays told)");
        HoursBank bank = Check.bankOf("bank 50 50 2 99;" + EIGHT + "worker 10 0;worker 10 0;");
        closeWith(bank, 7);
        bank.work(0, 9);
        bank.sick(1, true);
        bank.leave(0);
        bank.leave(1);
        Check.is("worked", bank.day(0, 1, 1), 9);
        Check.is("worked ahead of it", bank.day(0, 0, 1), 7);
        Check.is("sick", bank.day(1, 1, 2), 1);
        Check.is("load of the worked one", bank.load(0, 1), 16);
        Check.is("load of the sick one", bank.load(1, 1), 8);
        Check.is("not ahead of today yet", bank.worker(0, 8), 7);
        bank.endDay();
        Check.is("worked in all", bank.worker(0, 8), 16);
        Check.is("sick in all", bank.worker(1, 9), 1);
    }

    private static void throwingChangesNothing() {
        Check.sentence("A call that throws changes nothing.");
        HoursBank bank = Check.bankOf("bank 50 50 2 99;" + EIGHT + "worker 10 364;worker 10 364;");
        closeWith(bank, 9);
        bank.book(0, 5, true);
        bank.leave(1);
        Check.throwsNoSuch("leave(1)", () -> bank.leave(1));
        Check.throwsNoSuch("leave(2)", () -> bank.leave(2));
        Check.throwsNoSuch("due(1)", () -> bank.due(1));
        Check.throwsNoSuch("due(-1)", () -> bank.due(-1));
        Check.throwsNoSuch("worker(0, 12)", () -> bank.worker(0, 12));
        Check.throwsNoSuch("worker(2, 0)", () -> bank.worker(2, 0));
        Check.is("what can be undone", bank.now(8), 4);
        Check.is("those not gone", bank.now(2), 1);
        Check.is("today", bank.now(0), 1);
        Check.is("booked", bank.now(5), 1);
        Check.is("coins", bank.now(7), bank.worker(1, 7));
        Check.is("settled", bank.worker(1, 7), 10 * (-8 + 1));
        Check.is("balance", bank.worker(0, 0), 1);
        Check.is("undo()", bank.undo(), 3);
        Check.is("there again", bank.now(2), 2);
    }

    private static void closeWith(HoursBank bank, int quarters) {
        bank.work(0, quarters);
        bank.endDay();
    }
}
