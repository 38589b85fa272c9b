/** Promises 15 to 21: plan, work, sick, book, endDay, leave, undo. */
public final class ActsTest {
    private static final int FAR = Integer.MAX_VALUE;
    private static final int DEEP = Integer.MIN_VALUE;
    private static final String TEXT = "bank 20 30 2 70;season 0 363 10 11 12 13 14 15 16;"
        + "notice 3 50;worker 7 100;worker 9 25;";

    public static void main(String[] args) {
        plan();
        work();
        sick();
        book();
        bookWithinLeave();
        endDay();
        leave();
        undoNothing();
        undoEachAct();
        undoTenAtMost();
        undoClosedDays();
        undoWhatWasNotDone();
        Check.finish();
    }

    private static void plan() {
        HoursBank bank = Check.bankOf(TEXT);
        Check.is("plan today", bank.plan(0, 0, 20), 35);
        Check.is("plan it again", bank.plan(0, 0, 19), 3);
        Check.is("planned", bank.day(0, 0, 0), 19);
        Check.is("coins", bank.worker(0, 5), 38);
        Check.is("changed once", bank.now(4), 1);
        Check.is("to the same", bank.plan(0, 363, 16), 0);
        Check.is("counts as changed", bank.day(0, 363, 5), 1);
        Check.is("two then", bank.now(4), 2);
        Check.is("to 0", bank.plan(0, 1, 0), 38);
        Check.is("to 96", bank.plan(0, 2, 96), 7 * 84 / 2);
        bank.sick(0, true);
        Check.is("sick does not bar it", bank.plan(0, 0, 1), 63);
        bank.sick(0, false);
        bank.work(0, 5);
        Check.is("nor does work", bank.plan(0, 0, 2), 3);
        bank.endDay();
        Check.is("closed by the changed plan", bank.worker(0, 0), 3);
        Check.is("one closed", bank.plan(0, 0, 5), -1);
        Check.is("the other's plan", bank.day(1, 2, 0), 12);
    }

    private static void work() {
        HoursBank bank = Check.bankOf(TEXT);
        Check.is("work 96", bank.work(0, 96), true);
        Check.is("in its place", bank.work(0, 3), true);
        Check.is("worked", bank.day(0, 0, 1), 3);
        Check.is("work 0", bank.work(0, 0), true);
        Check.is("worked none", bank.day(0, 0, 1), 0);
        Check.is("acts", bank.now(8), 3);
        Check.is("work 97", bank.work(0, 97), false);
        Check.is("work -1", bank.work(0, -1), false);
        Check.is("work most", bank.work(0, FAR), false);
        Check.is("work least", bank.work(0, DEEP), false);
        Check.is("of 2", bank.work(2, 1), false);
        Check.is("of -1", bank.work(-1, 1), false);
        Check.is("no acts", bank.now(8), 3);
        bank.sick(0, true);
        Check.is("when sick", bank.work(0, 0), false);
        bank.book(1, 0, true);
        Check.is("on leave", bank.work(1, 1), false);
        bank.book(1, 0, false);
        Check.is("no more on leave", bank.work(1, 1), true);
        bank.leave(1);
        Check.is("gone", bank.work(1, 1), false);
        Check.close(bank, 363);
        Check.is("the last day", bank.work(0, 1), true);
        bank.endDay();
        Check.is("all is closed", bank.work(0, 1), false);
    }

    private static void sick() {
        HoursBank bank = Check.bankOf(TEXT);
        Check.is("not sick already", bank.sick(0, false), false);
        Check.is("sick", bank.sick(0, true), true);
        Check.is("sick already", bank.sick(0, true), false);
        Check.is("well", bank.sick(0, false), true);
        Check.is("kind", bank.day(0, 0, 2), 0);
        bank.work(0, 0);
        Check.is("worked none", bank.sick(0, true), true);
        bank.sick(0, false);
        bank.work(0, 1);
        Check.is("worked", bank.sick(0, true), false);
        Check.is("worked, and well", bank.sick(0, false), false);
        bank.book(1, 0, true);
        Check.is("on leave", bank.sick(1, true), false);
        Check.is("on leave, and well", bank.sick(1, false), false);
        Check.is("of 2", bank.sick(2, true), false);
        Check.is("of -1", bank.sick(-1, true), false);
        bank.endDay();
        Check.is("a new day", bank.sick(0, true), true);
        Check.is("balance ahead", bank.worker(0, 0), -9);
        bank.endDay();
        Check.is("balance stays", bank.worker(0, 0), -9);
        bank.leave(1);
        Check.is("gone", bank.sick(1, true), false);
        Check.close(bank, 362);
        Check.is("all is closed", bank.sick(0, true), false);
        Check.is("all is closed, and well", bank.sick(0, false), false);
    }

    private static void book() {
        HoursBank bank = Check.bankOf(TEXT);
        Check.is("today", bank.book(0, 0, true), 90);
        Check.is("already", bank.book(0, 0, true), -1);
        Check.is("the last day", bank.book(0, 363, true), 74);
        Check.is("back", bank.book(0, 0, false), 84);
        Check.is("back already", bank.book(0, 0, false), -1);
        bank.work(0, 1);
        Check.is("worked", bank.book(0, 0, true), -1);
        Check.is("worked, back", bank.book(0, 0, false), -1);
        bank.work(0, 0);
        Check.is("worked none", bank.book(0, 0, true), 74);
        bank.book(0, 0, false);
        bank.sick(0, true);
        Check.is("sick", bank.book(0, 0, true), -1);
        Check.is("sick, back", bank.book(0, 0, false), -1);
        Check.is("sick, another day", bank.book(0, 1, true), 73);
        Check.is("day -1", bank.book(0, -1, true), -1);
        Check.is("day 364", bank.book(0, 364, true), -1);
        Check.is("day most", bank.book(0, FAR, true), -1);
        Check.is("worker 2", bank.book(2, 0, true), -1);
        Check.is("worker -1", bank.book(-1, 0, true), -1);
        Check.close(bank, 2);
        Check.is("a closed one", bank.book(0, 0, true), -1);
        Check.is("a closed one back", bank.book(0, 1, false), -1);
        Check.is("closed ones count", bank.worker(0, 1), 73);
        bank.leave(0);
        Check.is("gone", bank.book(0, 9, true), -1);
        Check.is("gone, back", bank.book(0, 363, false), -1);
    }

    private static void bookWithinLeave() {
        HoursBank bank = Check.bankOf(TEXT);
        Check.is("12 of 25", bank.book(1, 2, true), 13);
        Check.is("14 of 13", bank.book(1, 4, true), -2);
        Check.is("already, though too little is left", bank.book(1, 2, true), -1);
        Check.is("13 of 13", bank.book(1, 3, true), 0);
        Check.is("10 of 0", bank.book(1, 7, true), -2);
        bank.plan(1, 7, 0);
        Check.is("0 of 0", bank.book(1, 7, true), 0);
        bank.sick(1, true);
        Check.is("sick, though too little is left", bank.book(1, 0, true), -1);
        Check.is("back with nothing left", bank.book(1, 3, false), 13);
        Check.is("plan of one back", bank.plan(1, 3, 20), 0);
        Check.is("by its changed plan", bank.book(1, 3, true), -2);
        int kept = bank.now(8);
        bank.book(1, 3, true);
        Check.is("-2 is no act", bank.now(8), kept);
    }

    private static void endDay() {
        HoursBank empty = new HoursBank();
        Check.is("without workers", empty.endDay(), 0);
        Check.is("today then", empty.now(0), 1);
        HoursBank bank = Check.bankOf("bank 0 0 1 5;worker 1 0;worker 1 0;worker 1 0;");
        bank.work(0, 6);
        bank.work(1, 5);
        bank.work(2, 6);
        Check.is("two flagged", bank.endDay(), 2);
        Check.is("none flagged", bank.endDay(), 0);
        bank.leave(2);
        for (int i = 2; i < 364; i++) {
            Check.is("day " + i, bank.endDay(), 0);
        }
        Check.is("all are closed", bank.now(0), 364);
        int kept = bank.now(8);
        Check.is("endDay then", bank.endDay(), -1);
        Check.is("today stays", bank.now(0), 364);
        Check.is("no act", bank.now(8), kept);
    }

    private static void leave() {
        HoursBank bank = Check.bankOf(TEXT);
        Check.throwsNoSuch("leave(2)", () -> bank.leave(2));
        Check.throwsNoSuch("leave(-1)", () -> bank.leave(-1));
        Check.throwsNoSuch("leave(most)", () -> bank.leave(FAR));
        Check.throwsNoSuch("leave(least)", () -> bank.leave(DEEP));
        Check.is("what throws is no act", bank.now(8), 0);
        bank.work(0, 14);
        bank.book(1, 0, true);
        Check.close(bank, 1);
        Check.is("leave(0)", bank.leave(0), 28);
        Check.is("balance then", bank.worker(0, 0), 0);
        Check.is("leave(1)", bank.leave(1), -90);
        Check.throwsNoSuch("gone", () -> bank.leave(0));
        Check.is("settled", bank.worker(0, 7), 28);
        bank.undo();
        bank.undo();
        Check.is("nothing settled", bank.worker(0, 7), 0);
        Check.is("balance again", bank.worker(0, 0), 4);
        bank.leave(0);
        bank.leave(1);
        Check.is("none are there", bank.now(2), 0);
        Check.is("days go on", bank.endDay(), 0);
        HoursBank late = Check.bankOf(TEXT);
        Check.close(late, 364);
        Check.is("leave behind the year", late.leave(0), 7 * (-20 + 100));
    }

    private static void undoNothing() {
        HoursBank bank = Check.bankOf(TEXT);
        Check.is("nothing", bank.undo(), -1);
        bank.work(0, 1);
        Check.is("one", bank.undo(), 0);
        Check.is("no more", bank.undo(), -1);
    }

    private static void undoEachAct() {
        HoursBank bank = Check.bankOf(TEXT);
        bank.plan(0, 5, 20);
        bank.plan(0, 1, 20);
        bank.plan(0, 1, 21);
        bank.undo();
        Check.is("an earlier change", bank.day(0, 1, 0), 20);
        Check.is("its coins", bank.worker(0, 5), 31);
        bank.undo();
        Check.is("as by season", bank.day(0, 1, 0), 11);
        Check.is("not changed", bank.day(0, 1, 5), 0);
        Check.is("no coins", bank.now(7), 0);
        bank.work(0, 9);
        bank.work(0, 8);
        bank.undo();
        Check.is("work told first", bank.day(0, 0, 1), 9);
        bank.undo();
        Check.is("no work", bank.day(0, 0, 1), 0);
        bank.sick(0, true);
        bank.sick(0, false);
        bank.undo();
        Check.is("sick again", bank.day(0, 0, 2), 1);
        bank.undo();
        Check.is("well again", bank.day(0, 0, 2), 0);
        bank.book(0, 3, true);
        bank.book(0, 3, false);
        bank.undo();
        Check.is("booked again", bank.day(0, 3, 2), 2);
        Check.is("left with it", bank.worker(0, 1), 87);
        bank.book(0, 4, true);
        bank.leave(0);
        Check.is("none booked", bank.now(5), 0);
        Check.is("leave undone", bank.undo(), 3);
        Check.is("there again", bank.now(2), 2);
        Check.is("both booked again", bank.now(5), 2);
        Check.is("left again", bank.worker(0, 1), 73);
        Check.is("nothing settled", bank.worker(0, 7), 0);
        bank.undo();
        bank.undo();
        Check.is("none booked", bank.now(5), 0);
        Check.is("the first plan", bank.undo(), 0);
        Check.is("nothing changed", bank.now(4), 0);
    }

    private static void undoTenAtMost() {
        HoursBank bank = Check.bankOf(TEXT);
        for (int i = 1; i <= 13; i++) {
            bank.work(0, i);
            Check.is("kept behind " + i, bank.now(8), Math.min(i, 10));
        }
        for (int i = 1; i <= 10; i++) {
            Check.is("undo " + i, bank.undo(), 10 - i);
            Check.is("worked then", bank.day(0, 0, 1), 13 - i);
        }
        Check.is("undo 11", bank.undo(), -1);
        Check.is("worked stays", bank.day(0, 0, 1), 3);
        bank.work(0, 50);
        Check.is("kept anew", bank.now(8), 1);
        bank.undo();
        Check.is("worked again", bank.day(0, 0, 1), 3);
    }

    private static void undoClosedDays() {
        HoursBank bank = Check.bankOf(TEXT);
        bank.work(0, 96);
        bank.work(1, 40);
        bank.endDay();
        bank.sick(1, true);
        Check.is("0 is flagged", bank.endDay(), 1);
        Check.is("today", bank.now(0), 2);
        bank.undo();
        Check.is("one day back", bank.now(0), 1);
        Check.is("sick is still told", bank.day(1, 1, 2), 1);
        Check.is("flagged no more", bank.day(0, 1, 4), 0);
        Check.is("the first still is", bank.day(0, 0, 4), 1);
        Check.is("flagged", bank.now(6), 1);
        bank.undo();
        bank.undo();
        Check.is("today", bank.now(0), 0);
        bank.plan(1, 0, 96);
        bank.work(1, 0);
        bank.endDay();
        Check.is("docked", bank.worker(1, 3), 76);
        bank.undo();
        bank.undo();
        bank.undo();
        for (int what : new int[] {0, 2, 3, 4, 6, 8, 9, 10}) {
            Check.is("worker(0, " + what + ")", bank.worker(0, what), 0);
            Check.is("worker(1, " + what + ")", bank.worker(1, what), 0);
        }
        Check.is("not flagged", bank.day(0, 0, 4), 0);
        Check.is("worked is still told", bank.day(0, 0, 1), 96);
        Check.is("closed again", bank.endDay(), 1);
        Check.is("overtime again", bank.worker(0, 2), 56);
        Check.close(bank, 363);
        bank.leave(0);
        Check.is("leaving behind the year undone", bank.undo(), 9);
        Check.is("all is still closed", bank.now(0), 364);
        Check.is("the last day undone", bank.undo(), 8);
        Check.is("the last day", bank.now(0), 363);
    }

    private static void undoWhatWasNotDone() {
        HoursBank bank = Check.bankOf(TEXT);
        bank.work(0, 5);
        bank.work(0, 97);
        bank.plan(0, 364, 1);
        bank.sick(0, true);
        bank.book(0, 0, true);
        bank.book(1, 5, false);
        Check.throwing(() -> bank.leave(7));
        bank.cost(0, 0, 50);
        bank.feed(0, 0, 0, 0, 0);
        bank.end(3);
        Check.is("one act", bank.now(8), 1);
        Check.is("it is undone", bank.undo(), 0);
        Check.is("worked none", bank.day(0, 0, 1), 0);
        Check.is("the tape is no act", bank.now(9), 3);
    }
}
