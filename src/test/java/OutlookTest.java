/** Promises 10 and 12 to 14: room, reaches, cost, due. */
public final class OutlookTest {
    private static final int FAR = Integer.MAX_VALUE;
    private static final int DEEP = Integer.MIN_VALUE;

    public static void main(String[] args) {
        room();
        roomOfWideWindow();
        reaches();
        reachesPassesOver();
        reachesByClamps();
        cost();
        costThatCannotBe();
        due();
        Check.finish();
    }

    private static void room() {
        HoursBank bank = Check.bankOf("bank 99 99 3 100;season 0 363 40 40 40 40 40 40 40;worker 1 99;");
        Check.is("at most 96", bank.room(0), 96);
        bank.work(0, 50);
        Check.is("whatever is told of today", bank.room(0), 96);
        bank.endDay();
        Check.is("behind 50", bank.room(0), 50);
        bank.sick(0, true);
        Check.is("as if not sick", bank.room(0), 50);
        bank.endDay();
        Check.is("a sick day's plan counts", bank.room(0), 10);
        bank.book(0, 2, true);
        Check.is("as if not on leave", bank.room(0), 10);
        bank.endDay();
        Check.is("50 are out of the window", bank.room(0), 60);
        bank.work(0, 96);
        bank.endDay();
        Check.is("behind 96", bank.room(0), 4);
        bank.work(0, 4);
        bank.endDay();
        Check.is("none is room for 0", bank.room(0), 0);
        bank.work(0, 1);
        bank.endDay();
        bank.work(0, 96);
        bank.endDay();
        bank.work(0, 96);
        bank.endDay();
        Check.is("flagged by none", bank.room(0), -2);
        Check.is("room(1)", bank.room(1), -1);
        Check.is("room(-1)", bank.room(-1), -1);
        Check.is("room(most)", bank.room(FAR), -1);
        Check.is("room(least)", bank.room(DEEP), -1);
        bank.leave(0);
        Check.is("room of one gone", bank.room(0), -1);
    }

    private static void roomOfWideWindow() {
        HoursBank bank = Check.bankOf("bank 99 99 60 60;season 0 363 1 1 1 1 1 1 1;worker 1 99;");
        for (int i = 0; i < 70; i++) {
            bank.work(0, 1);
            Check.is("room on " + i, bank.room(0), 60 - Math.min(i, 59));
            Check.is("flagged on " + i, bank.endDay(), 0);
        }
        Check.close(bank, 293);
        Check.is("the last day", bank.room(0), 60);
        bank.endDay();
        Check.is("all is closed", bank.room(0), -1);
        HoursBank tight = Check.bankOf("bank 0 0 1 0;worker 1 0;");
        Check.is("LIMIT 0", tight.room(0), 0);
    }

    private static void reaches() {
        HoursBank bank = Check.bankOf("bank 20 30 1 9999;season 0 363 32 32 32 32 32 32 32;worker 7 99;");
        Check.is("passes 30 by 10", bank.reaches(0, 10), 3);
        Check.is("below -20 by 10", bank.reaches(0, -10), 2);
        Check.is("by 31", bank.reaches(0, 31), 0);
        Check.is("by 30", bank.reaches(0, 30), 1);
        Check.is("by -20", bank.reaches(0, -20), 1);
        Check.is("by -21", bank.reaches(0, -21), 0);
        Check.is("by none", bank.reaches(0, 0), -2);
        Check.is("by 1", bank.reaches(0, 1), 30);
        Check.is("by -1", bank.reaches(0, -1), 20);
        bank.work(0, 90);
        Check.is("whatever is worked today", bank.reaches(0, 10), 3);
        bank.endDay();
        Check.is("from HIGH on", bank.reaches(0, 1), 1);
        Check.is("from HIGH down", bank.reaches(0, -1), 51);
        Check.is("by 97", bank.reaches(0, 97), -1);
        Check.is("by -97", bank.reaches(0, -97), -1);
        Check.is("by most", bank.reaches(0, FAR), -1);
        Check.is("by least", bank.reaches(0, DEEP), -1);
        Check.is("worker 1", bank.reaches(1, 0), -1);
        Check.is("worker -1", bank.reaches(-1, 0), -1);
        Check.close(bank, 363);
        Check.is("all is closed", bank.reaches(0, 96), -2);
        bank.leave(0);
        Check.is("gone", bank.reaches(0, 0), -1);
    }

    private static void reachesPassesOver() {
        HoursBank bank = Check.bankOf("bank 20 30 1 9999;season 0 363 32 32 32 32 32 32 32;worker 7 99;");
        bank.book(0, 1, true);
        Check.is("a booked day", bank.reaches(0, 10), 4);
        bank.sick(0, true);
        Check.is("sick today", bank.reaches(0, 10), 5);
        Check.is("one day is enough", bank.reaches(0, 96), 2);
    }

    private static void reachesByClamps() {
        HoursBank bank = Check.bankOf("bank 20 30 1 9999;season 0 363 90 4 0 0 0 0 0;worker 7 99;");
        // By 50: 6 on the first day (96 in all), then 50.
        Check.is("no more than 96 in all", bank.reaches(0, 50), 1);
        Check.is("no less than 0 in all", bank.reaches(0, -20), 1);
        HoursBank idle = Check.bankOf("bank 0 0 1 9999;worker 7 99;");
        Check.is("nothing planned, less of it", idle.reaches(0, -96), -2);
        Check.is("nothing planned, more of it", idle.reaches(0, 1), 0);
        HoursBank full = Check.bankOf("bank 0 0 1 9999;season 0 363 96 96 96 96 96 96 96;worker 7 99;");
        Check.is("all planned, more of it", full.reaches(0, 96), -2);
        Check.is("all planned, less of it", full.reaches(0, -96), 0);
        HoursBank late = Check.bankOf("bank 0 362 1 9999;season 0 363 8 8 8 8 8 8 8;worker 7 99;");
        Check.is("the last but one", late.reaches(0, 1), 362);
        late = Check.bankOf("bank 0 363 1 9999;season 0 363 8 8 8 8 8 8 8;worker 7 99;");
        Check.is("the last", late.reaches(0, 1), 363);
        late = Check.bankOf("bank 0 364 1 9999;season 0 363 8 8 8 8 8 8 8;worker 7 99;");
        Check.is("not this year", late.reaches(0, 1), -2);
    }

    private static void cost() {
        HoursBank bank = Check.bankOf("bank 9 9 1 99;season 0 363 10 10 10 10 10 10 10;"
            + "notice 3 50;notice 1 120;notice 7 25;worker 7 99;worker 999 99;");
        Check.is("today", bank.cost(0, 0, 20), 84);
        Check.is("one ahead", bank.cost(0, 1, 20), 35);
        Check.is("two ahead", bank.cost(0, 2, 0), 35);
        Check.is("three ahead", bank.cost(0, 3, 0), 17);
        Check.is("six ahead", bank.cost(0, 6, 11), 1);
        Check.is("seven ahead", bank.cost(0, 7, 96), 0);
        Check.is("the same", bank.cost(0, 0, 10), 0);
        Check.is("dear", bank.cost(1, 0, 96), 86 * 999 * 12 / 10);
        Check.is("asking changes nothing", bank.now(4) + bank.now(7) + bank.now(8), 0);
        bank.endDay();
        Check.is("by today", bank.cost(0, 7, 0), 17);
        bank.plan(0, 7, 5);
        Check.is("by what is planned now", bank.cost(0, 7, 0), 8);
        // The greatest counts, not the one with the fewest days.
        HoursBank other = Check.bankOf("bank 9 9 1 99;notice 60 300;notice 1 0;worker 1 0;");
        Check.is("the greatest", other.cost(0, 0, 1), 3);
        Check.is("59 ahead", other.cost(0, 59, 1), 3);
        Check.is("60 ahead", other.cost(0, 60, 1), 0);
        HoursBank free = Check.bankOf("bank 9 9 1 99;worker 1 0;");
        Check.is("without a notice", free.cost(0, 0, 96), 0);
    }

    private static void costThatCannotBe() {
        HoursBank bank = Check.bankOf("bank 9 9 1 99;season 0 363 10 10 10 10 10 10 10;notice 3 50;worker 7 99;");
        bank.endDay();
        bank.book(0, 5, true);
        cannot(bank, 0, 5, 0);
        cannot(bank, 0, 0, 0);
        cannot(bank, 0, -1, 0);
        cannot(bank, 0, 364, 0);
        cannot(bank, 0, 1, 97);
        cannot(bank, 0, 1, -1);
        cannot(bank, 1, 1, 0);
        cannot(bank, -1, 1, 0);
        cannot(bank, FAR, FAR, FAR);
        cannot(bank, DEEP, DEEP, DEEP);
        bank.leave(0);
        cannot(bank, 0, 1, 0);
    }

    private static void cannot(HoursBank bank, int worker, int day, int quarters) {
        String what = "(" + worker + ", " + day + ", " + quarters + ")";
        int kept = bank.now(8);
        Check.is("cost" + what, bank.cost(worker, day, quarters), -1);
        Check.is("plan" + what, bank.plan(worker, day, quarters), -1);
        Check.is("no act of plan" + what, bank.now(8), kept);
    }

    private static void due() {
        HoursBank bank = Check.bankOf("bank 99 99 1 99;season 0 363 10 10 10 10 10 10 10;worker 7 100;worker 3 9999;");
        Check.is("at first", bank.due(0), 0);
        bank.work(0, 15);
        Check.is("today's work is not closed", bank.due(0), 0);
        bank.book(1, 1, true);
        Check.is("booked leave is not closed", bank.due(1), 0);
        bank.endDay();
        Check.is("balance", bank.due(0), 35);
        Check.is("earned, rounded down", bank.due(1), 3 * -10 + 3 * 27);
        bank.endDay();
        Check.is("less leave taken", bank.due(1), 3 * -10 + 3 * (54 - 10));
        Check.is("balance below 0", bank.due(0), -35);
        Check.close(bank, 1);
        Check.is("below", bank.due(0), 7 * -15);
        Check.close(bank, 1);
        Check.is("one quarter earned", bank.due(0), 7 * (-25 + 1));
        Check.close(bank, 360);
        Check.is("all earned", bank.due(0), 7 * (-99 + 100));
        Check.is("all earned less taken", bank.due(1), 3 * (-99 + 9999 - 10));
        Check.throwsNoSuch("due(2)", () -> bank.due(2));
        Check.throwsNoSuch("due(-1)", () -> bank.due(-1));
        Check.throwsNoSuch("due(most)", () -> bank.due(FAR));
        Check.throwsNoSuch("due(least)", () -> bank.due(DEEP));
        Check.is("leaving gives what is due", bank.leave(1), 3 * (-99 + 9999 - 10));
        Check.throwsNoSuch("due of one gone", () -> bank.due(1));
    }
}
