/** The edges that promises 15 to 21 name (acts and their undoing), sentence by sentence. */
public final class ActEdgesTest {
    private static final int FAR = Integer.MAX_VALUE;
    private static final int DEEP = Integer.MIN_VALUE;
    private static final int[] NO_WORKERS = {-1, 2, 3, 4, FAR, DEEP};
    private static final int[] NO_DAYS = {-1, 364, 365, FAR, DEEP};
    private static final int[] NO_QUARTERS = {-1, 97, FAR, DEEP};
    private static final String EIGHT = "season 0 363 8 8 8 8 8 8 8;";
    private static final String TWO = "bank 20 30 2 50;" + EIGHT + "notice 3 50;worker 10 40;worker 20 0;";

    public static void main(String[] args) {
        planFromTodayOn();
        planQuarters();
        planCosts();
        planNoSuch();
        planGone();
        planOnLeave();
        workQuarters();
        workInPlace();
        workNotSo();
        workGone();
        workAllClosed();
        workOtherKinds();
        sickOrNot();
        sickNoSuch();
        sickGone();
        sickAlready();
        sickOnLeave();
        sickWorked();
        sickAllClosed();
        bookFromTodayOn();
        bookLeftThen();
        bookNoSuch();
        bookGone();
        bookAlready();
        bookSick();
        bookWorked();
        bookLeftIsLess();
        bookNoneAheadOfLess();
        endDayFlagged();
        endDayAllClosed();
        leaveSettled();
        leaveNoSuch();
        leaveGone();
        undoEachAct();
        undoManyMore();
        undoTenAtMost();
        undoNone();
        undoOfRefusedActs();
        undoThroughAWholeRing();
        undoBehindAllClosed();
        Check.finish();
    }

    // ---- plan

    private static void planFromTodayOn() {
        Check.sentence("A plan is CHANGED, of a DAY from TODAY on");
        HoursBank bank = Check.bankOf(TWO);
        Check.close(bank, 5);
        Check.is("yesterday", bank.plan(0, 4, 9), -1);
        Check.is("its plan", bank.day(0, 4, 0), 8);
        Check.is("today", bank.plan(0, 5, 9), 5);
        Check.is("its plan", bank.day(0, 5, 0), 9);
        Check.is("the last day", bank.plan(0, 363, 9), 0);
        Check.is("its plan", bank.day(0, 363, 0), 9);
        Check.close(bank, 359);
        Check.is("all is closed", bank.plan(0, 363, 9), -1);
    }

    private static void planQuarters() {
        Check.sentence("to QUARTERS (0 to 96): what that costs");
        HoursBank bank = Check.bankOf(TWO);
        Check.is("0", bank.plan(0, 0, 0), 40);
        Check.is("96", bank.plan(0, 0, 96), 480);
        for (int quarters : NO_QUARTERS) {
            refusedPlan(bank, 0, 0, quarters);
        }
        Check.is("its plan", bank.day(0, 0, 0), 96);
    }

    private static void planCosts() {
        Check.sentence("what that costs. NONE");
        HoursBank bank = Check.bankOf(TWO);
        Check.is("two more", bank.plan(0, 2, 10), 10);
        Check.is("by the plan as it is", bank.plan(0, 2, 9), 5);
        Check.is("to the same", bank.plan(0, 2, 9), 0);
        Check.is("coins of it all", bank.worker(0, 5), 15);
        Check.is("acts", bank.now(8), 3);
        Check.is("to the same, at first", bank.plan(1, 0, 8), 0);
        Check.is("it is changed", bank.day(1, 0, 5), 1);
        bank.sick(0, true);
        Check.is("when sick", bank.plan(0, 0, 10), 10);
        bank.work(1, 5);
        Check.is("when worked", bank.plan(1, 0, 10), 20);
    }

    private static void planNoSuch() {
        Check.sentence("NONE: no such ones, GONE, it is on LEAVE");
        HoursBank bank = Check.bankOf(TWO);
        for (int worker : NO_WORKERS) {
            refusedPlan(bank, worker, 0, 0);
        }
        for (int day : NO_DAYS) {
            refusedPlan(bank, 0, day, 0);
        }
        refusedPlan(bank, FAR, FAR, FAR);
        refusedPlan(bank, DEEP, DEEP, DEEP);
    }

    private static void planGone() {
        Check.sentence("no such ones, GONE, it is on LEAVE");
        HoursBank bank = Check.bankOf(TWO);
        bank.leave(0);
        refusedPlan(bank, 0, 5, 9);
        Check.is("the other's", bank.plan(1, 5, 9), 0);
    }

    private static void planOnLeave() {
        Check.sentence("GONE, it is on LEAVE");
        HoursBank bank = Check.bankOf(TWO);
        bank.book(0, 0, true);
        bank.book(0, 9, true);
        refusedPlan(bank, 0, 0, 9);
        refusedPlan(bank, 0, 9, 9);
        refusedPlan(bank, 0, 9, 8);
        Check.is("a day beside it", bank.plan(0, 8, 9), 0);
        bank.book(0, 9, false);
        Check.is("no more on leave", bank.plan(0, 9, 9), 0);
    }

    private static void refusedPlan(HoursBank bank, int worker, int day, int quarters) {
        String what = "plan(" + worker + ", " + day + ", " + quarters + ")";
        int acts = bank.now(8);
        int changed = bank.now(4);
        int coins = bank.now(7);
        Check.is(what, bank.plan(worker, day, quarters), -1);
        Check.is("acts behind " + what, bank.now(8), acts);
        Check.is("changed plans behind " + what, bank.now(4), changed);
        Check.is("coins behind " + what, bank.now(7), coins);
    }

    // ---- work

    private static void workQuarters() {
        Check.sentence("QUARTERS (0 to 96) are WORKED TODAY");
        HoursBank bank = Check.bankOf(TWO);
        Check.is("work(0, 96)", bank.work(0, 96), true);
        Check.is("worked", bank.day(0, 0, 1), 96);
        Check.is("work(1, 0)", bank.work(1, 0), true);
        Check.is("worked", bank.day(1, 0, 1), 0);
        Check.is("acts", bank.now(8), 2);
        bank.endDay();
        bank.work(0, 1);
        Check.is("today", bank.day(0, 1, 1), 1);
        Check.is("yesterday", bank.day(0, 0, 1), 96);
        Check.is("tomorrow", bank.day(0, 2, 1), 0);
    }

    private static void workInPlace() {
        Check.sentence("(in place of those told)");
        HoursBank bank = Check.bankOf(TWO);
        bank.work(0, 60);
        Check.is("again", bank.work(0, 50), true);
        Check.is("worked", bank.day(0, 0, 1), 50);
        Check.is("the same again", bank.work(0, 50), true);
        Check.is("acts", bank.now(8), 3);
        Check.is("none", bank.work(0, 0), true);
        Check.is("worked", bank.day(0, 0, 1), 0);
    }

    private static void workNotSo() {
        Check.sentence("False: not so");
        HoursBank bank = Check.bankOf(TWO);
        bank.work(0, 5);
        for (int quarters : NO_QUARTERS) {
            Check.is("work(0, " + quarters + ")", bank.work(0, quarters), false);
        }
        for (int worker : NO_WORKERS) {
            Check.is("work(" + worker + ", 1)", bank.work(worker, 1), false);
        }
        Check.is("worked", bank.day(0, 0, 1), 5);
        Check.is("acts", bank.now(8), 1);
    }

    private static void workGone() {
        Check.sentence("not so, GONE, all is CLOSED");
        HoursBank bank = Check.bankOf(TWO);
        bank.leave(0);
        Check.is("work(0, 1)", bank.work(0, 1), false);
        Check.is("worked", bank.day(0, 0, 1), 0);
        Check.is("acts", bank.now(8), 1);
    }

    private static void workAllClosed() {
        Check.sentence("GONE, all is CLOSED, KIND 1 or 2");
        HoursBank bank = Check.bankOf(TWO);
        Check.close(bank, 363);
        Check.is("the last day", bank.work(0, 1), true);
        bank.endDay();
        Check.is("all is closed", bank.work(0, 2), false);
        Check.is("none", bank.work(0, 0), false);
        Check.is("worked on the last", bank.day(0, 363, 1), 1);
    }

    private static void workOtherKinds() {
        Check.sentence("all is CLOSED, KIND 1 or 2");
        HoursBank bank = Check.bankOf(TWO);
        bank.sick(0, true);
        Check.is("sick", bank.work(0, 1), false);
        Check.is("sick, none", bank.work(0, 0), false);
        bank.sick(0, false);
        Check.is("well", bank.work(0, 0), true);
        bank.book(0, 0, true);
        Check.is("on leave", bank.work(0, 1), false);
        Check.is("on leave, none", bank.work(0, 0), false);
        bank.book(0, 0, false);
        bank.book(0, 1, true);
        Check.is("tomorrow on leave", bank.work(0, 1), true);
    }

    // ---- sick

    private static void sickOrNot() {
        Check.sentence("A WORKER is SICK TODAY, or not: true");
        HoursBank bank = Check.bankOf(TWO);
        Check.is("sick", bank.sick(0, true), true);
        Check.is("kind", bank.day(0, 0, 2), 1);
        Check.is("kind of the other", bank.day(1, 0, 2), 0);
        Check.is("kind tomorrow", bank.day(0, 1, 2), 0);
        Check.is("well", bank.sick(0, false), true);
        Check.is("kind", bank.day(0, 0, 2), 0);
        bank.sick(0, true);
        bank.endDay();
        Check.is("a new day", bank.sick(0, false), false);
        Check.is("sick again", bank.sick(0, true), true);
        Check.is("sick yesterday", bank.day(0, 0, 2), 1);
    }

    private static void sickNoSuch() {
        Check.sentence("False: no such one, GONE");
        HoursBank bank = Check.bankOf(TWO);
        for (int worker : NO_WORKERS) {
            Check.is("sick(" + worker + ", true)", bank.sick(worker, true), false);
            Check.is("sick(" + worker + ", false)", bank.sick(worker, false), false);
        }
        Check.is("acts", bank.now(8), 0);
    }

    private static void sickGone() {
        Check.sentence("no such one, GONE, it is so already");
        HoursBank bank = Check.bankOf(TWO);
        bank.sick(0, true);
        bank.leave(0);
        Check.is("well", bank.sick(0, false), false);
        bank.leave(1);
        Check.is("sick", bank.sick(1, true), false);
        Check.is("acts", bank.now(8), 3);
    }

    private static void sickAlready() {
        Check.sentence("it is so already, on LEAVE");
        HoursBank bank = Check.bankOf(TWO);
        Check.is("well already", bank.sick(0, false), false);
        Check.is("acts", bank.now(8), 0);
        bank.sick(0, true);
        Check.is("sick already", bank.sick(0, true), false);
        Check.is("acts", bank.now(8), 1);
    }

    private static void sickOnLeave() {
        Check.sentence("on LEAVE, WORKED above 0");
        HoursBank bank = Check.bankOf(TWO);
        bank.book(0, 0, true);
        Check.is("sick on leave", bank.sick(0, true), false);
        Check.is("well on leave", bank.sick(0, false), false);
        Check.is("kind", bank.day(0, 0, 2), 2);
        bank.book(0, 0, false);
        bank.book(0, 1, true);
        Check.is("tomorrow on leave", bank.sick(0, true), true);
    }

    private static void sickWorked() {
        Check.sentence("on LEAVE, WORKED above 0.");
        HoursBank bank = Check.bankOf(TWO);
        bank.work(0, 1);
        Check.is("worked 1", bank.sick(0, true), false);
        Check.is("worked", bank.day(0, 0, 1), 1);
        bank.work(0, 0);
        Check.is("worked 0", bank.sick(0, true), true);
    }

    private static void sickAllClosed() {
        Check.sentence("A WORKER is SICK TODAY");
        HoursBank bank = Check.bankOf(TWO);
        Check.close(bank, 363);
        Check.is("the last day", bank.sick(0, true), true);
        bank.endDay();
        Check.is("all is closed", bank.sick(1, true), false);
        Check.is("all is closed, and well", bank.sick(0, false), false);
        Check.is("the last day stays", bank.day(0, 363, 2), 1);
    }

    // ---- book

    private static void bookFromTodayOn() {
        Check.sentence("A DAY from TODAY on is on LEAVE (is true), or not");
        HoursBank bank = Check.bankOf(TWO);
        bank.book(0, 4, true);
        Check.close(bank, 5);
        Check.is("yesterday", bank.book(0, 3, true), -1);
        Check.is("yesterday's back", bank.book(0, 4, false), -1);
        Check.is("today", bank.book(0, 5, true), 24);
        Check.is("the last day", bank.book(0, 363, true), 16);
        Check.is("kind", bank.day(0, 363, 2), 2);
        Check.is("the last day back", bank.book(0, 363, false), 24);
        Check.is("kind", bank.day(0, 363, 2), 0);
        Check.is("today back", bank.book(0, 5, false), 32);
        Check.close(bank, 359);
        Check.is("all is closed", bank.book(0, 363, true), -1);
    }

    private static void bookLeftThen() {
        Check.sentence("or not: LEFT then");
        HoursBank bank = Check.bankOf(TWO);
        for (int i = 1; i <= 5; i++) {
            Check.is("booked " + i, bank.book(0, 10 + i, true), 40 - 8 * i);
        }
        Check.is("left", bank.worker(0, 1), 0);
        Check.is("one back", bank.book(0, 11, false), 8);
        Check.is("left", bank.worker(0, 1), 8);
    }

    private static void bookNoSuch() {
        Check.sentence("NONE: no such ones, GONE, it is so already, SICK, WORKED above 0");
        HoursBank bank = Check.bankOf(TWO);
        for (int worker : NO_WORKERS) {
            Check.is("book(" + worker + ", 0, true)", bank.book(worker, 0, true), -1);
            Check.is("book(" + worker + ", 0, false)", bank.book(worker, 0, false), -1);
        }
        for (int day : NO_DAYS) {
            Check.is("book(0, " + day + ", true)", bank.book(0, day, true), -1);
            Check.is("book(0, " + day + ", false)", bank.book(0, day, false), -1);
        }
        Check.is("acts", bank.now(8), 0);
        Check.is("booked", bank.now(5), 0);
    }

    private static void bookGone() {
        Check.sentence("no such ones, GONE, it is so already");
        HoursBank bank = Check.bankOf(TWO);
        bank.book(0, 5, true);
        bank.leave(0);
        Check.is("book(0, 6, true)", bank.book(0, 6, true), -1);
        Check.is("book(0, 5, false)", bank.book(0, 5, false), -1);
        Check.is("acts", bank.now(8), 2);
        Check.is("booked", bank.now(5), 0);
    }

    private static void bookAlready() {
        Check.sentence("it is so already, SICK");
        HoursBank bank = Check.bankOf(TWO);
        Check.is("not booked already", bank.book(0, 5, false), -1);
        bank.book(0, 5, true);
        Check.is("booked already", bank.book(0, 5, true), -1);
        Check.is("left", bank.worker(0, 1), 32);
        Check.is("acts", bank.now(8), 1);
    }

    private static void bookSick() {
        Check.sentence("it is so already, SICK, WORKED above 0");
        HoursBank bank = Check.bankOf(TWO);
        bank.sick(0, true);
        Check.is("today", bank.book(0, 0, true), -1);
        Check.is("today back", bank.book(0, 0, false), -1);
        Check.is("kind", bank.day(0, 0, 2), 1);
        Check.is("tomorrow", bank.book(0, 1, true), 32);
        bank.sick(0, false);
        Check.is("well", bank.book(0, 0, true), 24);
    }

    private static void bookWorked() {
        Check.sentence("SICK, WORKED above 0; -2");
        HoursBank bank = Check.bankOf(TWO);
        bank.work(0, 1);
        Check.is("worked 1", bank.book(0, 0, true), -1);
        Check.is("worked 1, back", bank.book(0, 0, false), -1);
        Check.is("worked", bank.day(0, 0, 1), 1);
        Check.is("tomorrow", bank.book(0, 1, true), 32);
        bank.work(0, 0);
        Check.is("worked 0", bank.book(0, 0, true), 24);
    }

    private static void bookLeftIsLess() {
        Check.sentence("-2: LEFT is less than PLANNED");
        HoursBank bank = Check.bankOf("bank 20 30 2 50;season 0 363 8 9 7 0 1 8 8;worker 10 16;worker 10 0;");
        bank.book(0, 0, true);
        Check.is("9 of 8", bank.book(0, 1, true), -2);
        Check.is("kind", bank.day(0, 1, 2), 0);
        Check.is("left", bank.worker(0, 1), 8);
        Check.is("acts", bank.now(8), 1);
        Check.is("8 of 8", bank.book(0, 5, true), 0);
        Check.is("1 of 0", bank.book(0, 4, true), -2);
        Check.is("0 of 0", bank.book(0, 3, true), 0);
        Check.is("back, with less left than planned", bank.book(0, 5, false), 8);
        bank.plan(0, 6, 9);
        Check.is("by a changed plan", bank.book(0, 6, true), -2);
        bank.plan(0, 1, 8);
        Check.is("by a changed plan", bank.book(0, 1, true), 0);
        Check.is("of no leave at all", bank.book(1, 0, true), -2);
        Check.is("of no leave at all, 0 planned", bank.book(1, 3, true), 0);
        bank.endDay();
        Check.is("a closed one still counts", bank.book(0, 4, true), -2);
    }

    private static void bookNoneAheadOfLess() {
        Check.sentence("NONE: no such ones, GONE, it is so already, SICK, WORKED above 0; -2: LEFT is less than PLANNED");
        HoursBank bank = Check.bankOf("bank 20 30 2 50;" + EIGHT + "worker 10 8;worker 10 0;");
        bank.book(0, 5, true);
        Check.is("already", bank.book(0, 5, true), -1);
        bank.sick(0, true);
        Check.is("sick", bank.book(0, 0, true), -1);
        bank.work(1, 1);
        Check.is("worked", bank.book(1, 0, true), -1);
        Check.is("no such day", bank.book(1, 364, true), -1);
        bank.leave(1);
        Check.is("gone", bank.book(1, 5, true), -1);
    }

    // ---- endDay, leave

    private static void endDayFlagged() {
        Check.sentence("TODAY is CLOSED: how many WORKERS were FLAGGED");
        HoursBank bank = Check.bankOf("bank 0 0 1 5;" + "worker 1 0;".repeat(4));
        Check.is("none", bank.endDay(), 0);
        for (int worker = 0; worker < 4; worker++) {
            for (int i = 0; i <= worker; i++) {
                bank.work(i, 6);
            }
            Check.is("flagged", bank.endDay(), worker + 1);
        }
        bank.work(0, 6);
        bank.work(1, 5);
        bank.work(3, 6);
        Check.is("two of four", bank.endDay(), 2);
        Check.is("today", bank.now(0), 6);
        bank.work(3, 6);
        bank.leave(3);
        Check.is("one gone", bank.endDay(), 0);
        HoursBank empty = new HoursBank();
        Check.is("without workers", empty.endDay(), 0);
        Check.is("today", empty.now(0), 1);
    }

    private static void endDayAllClosed() {
        Check.sentence("how many WORKERS were FLAGGED. NONE: all are.");
        HoursBank bank = Check.bankOf(TWO);
        Check.close(bank, 363);
        Check.is("the last day", bank.endDay(), 0);
        int docked = bank.worker(0, 3);
        bank.undo();
        Check.is("the last day again", bank.endDay(), 0);
        int acts = bank.now(8);
        Check.is("all are", bank.endDay(), -1);
        Check.is("all are still", bank.endDay(), -1);
        Check.is("today", bank.now(0), 364);
        Check.is("acts", bank.now(8), acts);
        Check.is("docked", bank.worker(0, 3), docked);
    }

    private static void leaveSettled() {
        Check.sentence("A WORKER LEAVES: what was SETTLED");
        HoursBank bank = Check.bankOf(TWO);
        bank.work(0, 20);
        bank.endDay();
        int due = bank.due(0);
        Check.is("leave(0)", bank.leave(0), due);
        Check.is("12 by 10", due, 120);
        Check.is("settled", bank.worker(0, 7), 120);
        Check.is("leave(1), below 0", bank.leave(1), -160);
        Check.is("coins", bank.now(7), -40);
        HoursBank late = Check.bankOf(TWO);
        Check.is("on day 0", late.leave(1), 0);
        Check.close(late, 364);
        Check.is("all is closed", late.leave(0), 10 * (40 - 20));
    }

    private static void leaveNoSuch() {
        Check.sentence("NoSuchElementException: no such one, GONE");
        HoursBank bank = Check.bankOf(TWO);
        for (int worker : NO_WORKERS) {
            Check.throwsNoSuch("leave(" + worker + ")", () -> bank.leave(worker));
        }
        Check.is("acts", bank.now(8), 0);
        Check.is("those not gone", bank.now(2), 2);
        HoursBank empty = new HoursBank();
        Check.throwsNoSuch("of none", () -> empty.leave(0));
    }

    private static void leaveGone() {
        Check.sentence("no such one, GONE");
        HoursBank bank = Check.bankOf(TWO);
        bank.work(0, 20);
        bank.endDay();
        bank.leave(0);
        Check.throwsNoSuch("again", () -> bank.leave(0));
        Check.is("settled", bank.worker(0, 7), 120);
        Check.is("acts", bank.now(8), 3);
        bank.undo();
        Check.is("undone, and again", bank.leave(0), 120);
    }

    // ---- undo

    private static void undoEachAct() {
        Check.sentence("The latest plan(), work(), sick(), book(), endDay(), leave() that was done is undone");
        HoursBank bank = Check.bankOf(TWO);
        bank.plan(0, 1, 20);
        bank.undo();
        Check.is("plan", bank.day(0, 1, 0) * 10 + bank.day(0, 1, 5), 80);
        Check.is("its coins", bank.worker(0, 5), 0);
        bank.plan(0, 1, 20);
        bank.plan(0, 1, 0);
        bank.undo();
        Check.is("a second plan", bank.day(0, 1, 0) * 10 + bank.day(0, 1, 5), 201);
        Check.is("its coins", bank.worker(0, 5), 60);
        bank.work(0, 9);
        bank.work(0, 7);
        bank.undo();
        Check.is("work", bank.day(0, 0, 1), 9);
        bank.undo();
        Check.is("work told first", bank.day(0, 0, 1), 0);
        bank.sick(0, true);
        bank.undo();
        Check.is("sick", bank.day(0, 0, 2), 0);
        bank.sick(0, true);
        bank.sick(0, false);
        bank.undo();
        Check.is("well", bank.day(0, 0, 2), 1);
        bank.book(0, 5, true);
        bank.undo();
        Check.is("book", bank.day(0, 5, 2), 0);
        Check.is("left", bank.worker(0, 1), 40);
        bank.book(0, 5, true);
        bank.book(0, 5, false);
        bank.undo();
        Check.is("back", bank.day(0, 5, 2), 2);
        undoOfClosing(bank);
        undoOfLeaving();
    }

    private static void undoOfClosing(HoursBank bank) {
        bank.work(1, 96);
        Check.is("endDay()", bank.endDay(), 1);
        bank.undo();
        Check.is("endDay undone", bank.now(0), 0);
        for (int what : new int[] {0, 2, 3, 4, 6, 8, 9, 10}) {
            Check.is("worker(1, " + what + ")", bank.worker(1, what), 0);
        }
        Check.is("its mark", bank.day(1, 0, 4), 0);
        Check.is("worked stays told", bank.day(1, 0, 1), 96);
        Check.is("sick stays told", bank.day(0, 0, 2), 1);
        Check.is("endDay() again", bank.endDay(), 1);
        Check.is("overtime", bank.worker(1, 2), 58);
    }

    private static void undoOfLeaving() {
        HoursBank bank = Check.bankOf(TWO);
        bank.work(0, 20);
        bank.endDay();
        bank.book(0, 1, true);
        bank.book(0, 9, true);
        bank.leave(0);
        bank.undo();
        Check.is("leave undone", bank.now(2), 2);
        Check.is("gone", bank.worker(0, 11), 0);
        Check.is("balance", bank.worker(0, 0), 12);
        Check.is("settled", bank.worker(0, 7), 0);
        Check.is("booked again", bank.now(5), 2);
        Check.is("left again", bank.worker(0, 1), 24);
        Check.is("can be booked", bank.book(0, 2, true), 16);
    }

    private static void undoManyMore() {
        Check.sentence("is undone: how many more can be");
        HoursBank bank = Check.bankOf(TWO);
        bank.plan(0, 5, 9);
        bank.work(0, 9);
        bank.sick(1, true);
        bank.book(0, 6, true);
        bank.endDay();
        bank.leave(0);
        for (int more = 5; more >= 0; more--) {
            Check.is("more", bank.undo(), more);
            Check.is("what can be undone", bank.now(8), more);
        }
        Check.is("no more", bank.undo(), -1);
        for (int what : new int[] {0, 4, 5, 6, 7}) {
            Check.is("now(" + what + ")", bank.now(what), 0);
        }
    }

    private static void undoTenAtMost() {
        Check.sentence("(10 at most are kept)");
        HoursBank bank = Check.bankOf(TWO);
        for (int i = 1; i <= 11; i++) {
            bank.work(0, i);
        }
        for (int i = 1; i <= 10; i++) {
            Check.is("undo " + i, bank.undo(), 10 - i);
            Check.is("worked", bank.day(0, 0, 1), 11 - i);
        }
        Check.is("the eleventh", bank.undo(), -1);
        Check.is("worked stays", bank.day(0, 0, 1), 1);
        HoursBank ten = Check.bankOf(TWO);
        for (int i = 1; i <= 10; i++) {
            ten.endDay();
        }
        for (int i = 9; i >= 0; i--) {
            Check.is("undo of ten days", ten.undo(), i);
            Check.is("today", ten.now(0), i);
        }
        for (int what : new int[] {0, 2, 3, 4, 6}) {
            Check.is("worker(0, " + what + ")", ten.worker(0, what), 0);
        }
    }

    private static void undoNone() {
        Check.sentence("NONE: none is.");
        HoursBank fresh = new HoursBank();
        Check.is("a new object", fresh.undo(), -1);
        HoursBank bank = Check.bankOf(TWO);
        Check.is("a new text", bank.undo(), -1);
        bank.work(0, 5);
        Check.is("one", bank.undo(), 0);
        Check.is("none", bank.undo(), -1);
        Check.is("none still", bank.undo(), -1);
        // What is undone is not done again, and what is done then can be undone.
        Check.is("worked", bank.day(0, 0, 1), 0);
        bank.work(0, 6);
        Check.is("one again", bank.undo(), 0);
    }

    private static void undoOfRefusedActs() {
        Check.sentence("that was done is undone");
        HoursBank bank = Check.bankOf(TWO);
        bank.work(0, 5);
        bank.plan(0, 0, 97);
        bank.work(0, 97);
        bank.sick(0, true);
        bank.book(0, 0, true);
        bank.book(1, 5, true);
        Check.throwing(() -> bank.leave(2));
        Check.feed(bank, "?");
        bank.text();
        Check.is("acts", bank.now(8), 1);
        Check.is("the one that was done", bank.undo(), 0);
        Check.is("worked", bank.day(0, 0, 1), 0);
    }

    /** The places of ten acts are used again many times, with undoing in between. */
    private static void undoThroughAWholeRing() {
        Check.sentence("how many more can be (10 at most are kept)");
        HoursBank bank = Check.bankOf(TWO);
        for (int round = 0; round < 7; round++) {
            for (int i = 0; i < 13; i++) {
                bank.work(0, 13 * round + i);
            }
            for (int i = 1; i <= 10; i++) {
                Check.is("round " + round, bank.undo(), 10 - i);
                Check.is("worked", bank.day(0, 0, 1), 13 * round + 12 - i);
            }
            Check.is("no more", bank.undo(), -1);
        }
    }

    private static void undoBehindAllClosed() {
        Check.sentence("The latest plan(), work(), sick(), book(), endDay(), leave()");
        HoursBank bank = Check.bankOf(TWO);
        Check.close(bank, 364);
        bank.leave(0);
        Check.is("leave undone", bank.undo(), 9);
        Check.is("there again", bank.worker(0, 11), 0);
        Check.is("all is closed", bank.now(0), 364);
        Check.is("the last day undone", bank.undo(), 8);
        Check.is("today", bank.now(0), 363);
        Check.is("it can be worked", bank.work(0, 8), true);
    }
}
