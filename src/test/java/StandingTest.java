/** Promises 6 to 9 and 11: now, worker, day, load, planned. */
public final class StandingTest {
    private static final int FAR = Integer.MAX_VALUE;
    private static final int DEEP = Integer.MIN_VALUE;

    public static void main(String[] args) {
        plansBySeason();
        plannedTogether();
        balancesWithinBounds();
        coinsAreRoundedEachTime();
        kindsAndLoads();
        flaggedDays();
        countsOfAll();
        goneWorkers();
        wrongInputs();
        Check.finish();
    }

    private static void plansBySeason() {
        HoursBank bank = Check.bankOf("bank 0 0 1 0;season 0 20 1 2 3 4 5 6 7;"
            + "season 10 12 50 51 52 53 54 55 56;season 11 11 0 0 0 0 0 0 0;worker 1 0;");
        Check.is("day 0", bank.day(0, 0, 0), 1);
        Check.is("day 6", bank.day(0, 6, 0), 7);
        Check.is("day 7", bank.day(0, 7, 0), 1);
        Check.is("day 9", bank.day(0, 9, 0), 3);
        Check.is("FROM of a later season", bank.day(0, 10, 0), 53);
        Check.is("the latest told", bank.day(0, 11, 0), 0);
        Check.is("TO of a later season", bank.day(0, 12, 0), 55);
        Check.is("behind it", bank.day(0, 13, 0), 7);
        Check.is("the last day of all", bank.day(0, 20, 0), 7);
        Check.is("without a season", bank.day(0, 21, 0), 0);
        Check.is("a changed one", bank.plan(0, 11, 9), 0);
        Check.is("planned then", bank.day(0, 11, 0), 9);
        Check.is("changed then", bank.day(0, 11, 5), 1);
        Check.is("another not", bank.day(0, 12, 5), 0);
    }

    private static void plannedTogether() {
        HoursBank bank = Check.bankOf("bank 0 0 1 0;season 0 363 1 2 3 4 5 6 7;worker 1 0;worker 1 0;");
        Check.is("a year", bank.planned(0, 0, 363), 52 * 28);
        Check.is("one day", bank.planned(0, 363, 363), 7);
        Check.is("two days", bank.planned(0, 6, 7), 8);
        Check.is("the first is later", bank.planned(0, 7, 6), -1);
        Check.is("no such worker", bank.planned(2, 0, 1), -1);
        Check.is("worker -1", bank.planned(-1, 0, 1), -1);
        Check.is("from -1", bank.planned(0, -1, 1), -1);
        Check.is("to 364", bank.planned(0, 0, 364), -1);
        Check.is("far", bank.planned(FAR, DEEP, FAR), -1);
        Check.is("far days", bank.planned(0, DEEP, FAR), -1);
        bank.plan(1, 0, 96);
        Check.is("with a change", bank.planned(1, 0, 6), 28 + 95);
        Check.is("not the other's", bank.planned(0, 0, 6), 28);
        bank.leave(1);
        Check.is("of one gone", bank.planned(1, 0, 6), 28 + 95);
    }

    private static void balancesWithinBounds() {
        HoursBank bank = Check.bankOf("bank 20 30 1 9999;season 0 363 32 32 32 32 32 32 32;worker 7 0;");
        closeWith(bank, 62);
        Check.is("at HIGH", bank.worker(0, 0), 30);
        Check.is("no overtime", bank.worker(0, 2), 0);
        closeWith(bank, 33);
        Check.is("above HIGH", bank.worker(0, 0), 30);
        Check.is("one over", bank.worker(0, 2), 1);
        Check.is("coins of one", bank.worker(0, 4), 10);
        closeWith(bank, 0);
        closeWith(bank, 14);
        Check.is("at LOW", bank.worker(0, 0), -20);
        Check.is("nothing docked", bank.worker(0, 3), 0);
        closeWith(bank, 31);
        Check.is("below LOW", bank.worker(0, 0), -20);
        Check.is("one docked", bank.worker(0, 3), 1);
        Check.is("coins docked", bank.worker(0, 6), 7);
        Check.is("coins paid less docked", bank.now(7), 3);
        Check.is("worked", bank.worker(0, 8), 62 + 33 + 14 + 31);
        bank.work(0, 50);
        Check.is("today is not worked yet", bank.worker(0, 8), 62 + 33 + 14 + 31);
        bank.endDay();
        Check.is("it is then", bank.worker(0, 8), 62 + 33 + 14 + 31 + 50);
        bank.endDay();
        Check.is("none told is none worked", bank.worker(0, 0), -20);
        Check.is("docked in all", bank.worker(0, 3), 1 + 14);
    }

    private static void coinsAreRoundedEachTime() {
        HoursBank bank = Check.bankOf("bank 0 0 1 9999;worker 3 0;");
        for (int i = 1; i <= 4; i++) {
            closeWith(bank, 1);
            Check.is("overtime " + i, bank.worker(0, 2), i);
            Check.is("coins " + i, bank.worker(0, 4), 4 * i);
        }
        closeWith(bank, 2);
        Check.is("coins of two", bank.worker(0, 4), 16 + 9);
    }

    private static void kindsAndLoads() {
        HoursBank bank = Check.bankOf("bank 99 99 3 9999;season 0 363 10 11 12 13 14 15 16;worker 1 99;");
        bank.work(0, 5);
        kind(bank, 0, 5, 0, 5);
        bank.endDay();
        bank.sick(0, true);
        kind(bank, 1, 0, 1, 11);
        bank.plan(0, 1, 20);
        kind(bank, 1, 0, 1, 20);
        bank.endDay();
        bank.book(0, 2, true);
        kind(bank, 2, 0, 2, 0);
        bank.endDay();
        Check.is("balance by day 0 alone", bank.worker(0, 0), -5);
        Check.is("sick days", bank.worker(0, 9), 1);
        Check.is("leave left", bank.worker(0, 1), 87);
        Check.is("load to 0", bank.load(0, 0), 5);
        Check.is("load to 1", bank.load(0, 1), 25);
        Check.is("load to 2", bank.load(0, 2), 25);
        Check.is("load to 3", bank.load(0, 3), 20);
        bank.work(0, 7);
        Check.is("load as it stands", bank.load(0, 3), 27);
        Check.is("load of a day ahead", bank.load(0, 5), 7);
        Check.is("load of a later one", bank.load(0, 6), 0);
        Check.is("load of the last", bank.load(0, 363), 0);
        bank.endDay();
        bank.sick(0, true);
        Check.is("today is not among the sick ones", bank.worker(0, 9), 1);
        kind(bank, 4, 0, 1, 14);
        bank.book(0, 200, true);
        kind(bank, 200, 0, 2, 0);
        kind(bank, 201, 0, 0, 0);
    }

    private static void kind(HoursBank bank, int day, int worked, int kind, int load) {
        Check.is("worked on " + day, bank.day(0, day, 1), worked);
        Check.is("kind of " + day, bank.day(0, day, 2), kind);
        Check.is("load of " + day, bank.day(0, day, 3), load);
    }

    private static void flaggedDays() {
        HoursBank bank = Check.bankOf("bank 99 99 3 30;season 0 363 15 15 15 15 15 15 15;worker 1 99;worker 1 0;");
        closeWith(bank, 30);
        Check.is("at LIMIT", bank.day(0, 0, 4), 0);
        bank.work(0, 1);
        Check.is("not yet closed", bank.day(0, 1, 4), 0);
        Check.is("one flagged", bank.endDay(), 1);
        Check.is("above LIMIT", bank.day(0, 1, 4), 1);
        Check.is("not the other's", bank.day(1, 1, 4), 0);
        bank.book(0, 2, true);
        Check.is("on leave within the window", bank.endDay(), 1);
        Check.is("a flagged day on leave", bank.day(0, 2, 4), 1);
        Check.is("out of the window", bank.endDay(), 0);
        closeWith(bank, 16);
        bank.sick(0, true);
        Check.is("a sick day's load is its plan", bank.endDay(), 1);
        Check.is("flagged in all", bank.worker(0, 10), 3);
        Check.is("of the other", bank.worker(1, 10), 0);
        bank.work(0, 96);
        bank.work(1, 96);
        Check.is("two flagged", bank.endDay(), 2);
        Check.is("flagged of all", bank.now(6), 5);
    }

    private static void countsOfAll() {
        HoursBank bank = Check.bankOf("bank 0 5 1 9;season 0 363 8 8 8 8 8 8 8;season 9 9 1 1 1 1 1 1 1;"
            + "notice 5 100;worker 10 100;worker 20 100;worker 30 100;");
        Check.is("workers", bank.now(1), 3);
        Check.is("seasons", bank.now(3), 2);
        bank.plan(0, 1, 9);
        bank.plan(1, 1, 9);
        bank.plan(1, 1, 8);
        bank.plan(1, 300, 8);
        Check.is("changed plans", bank.now(4), 3);
        Check.is("coins of changes of 0", bank.worker(0, 5), 10);
        Check.is("coins of changes of 1", bank.worker(1, 5), 40);
        Check.is("coins of changes", bank.now(7), 50);
        bank.book(0, 0, true);
        bank.book(0, 5, true);
        bank.book(1, 5, true);
        Check.is("booked", bank.now(5), 3);
        bank.work(1, 8);
        bank.work(2, 14);
        bank.endDay();
        Check.is("today", bank.now(0), 1);
        Check.is("booked from today on", bank.now(5), 2);
        Check.is("changed plans stay", bank.now(4), 3);
        Check.is("with overtime", bank.now(7), 50 + 45);
        bank.endDay();
        Check.is("with docked", bank.now(7), 95 - 9 * 10 - 8 * 20 - 3 * 30);
        int settled = bank.leave(2);
        Check.is("settled", settled, 0);
        settled = bank.leave(0);
        Check.is("settled with leave taken", settled, -80);
        Check.is("with settled", bank.now(7), -245 - 80);
        Check.is("those not gone", bank.now(2), 1);
        Check.is("workers stay", bank.now(1), 3);
        Check.is("booked of those not gone", bank.now(5), 1);
        Check.is("changed of all", bank.now(4), 3);
        Check.is("acts kept", bank.now(8), 10);
        Check.is("bytes", bank.now(9), 0);
        bank.feed(0, 0, 0, 0, 0);
        Check.is("bytes then", bank.now(9), 20);
    }

    private static void goneWorkers() {
        HoursBank bank = Check.bankOf("bank 9 9 2 10;season 0 363 8 8 8 8 8 8 8;worker 5 364;worker 1 0;");
        bank.book(0, 0, true);
        bank.endDay();
        bank.work(0, 12);
        bank.book(0, 2, true);
        bank.book(0, 9, true);
        bank.plan(0, 3, 1);
        bank.leave(0);
        Check.is("balance", bank.worker(0, 0), 0);
        Check.is("left", bank.worker(0, 1), 0);
        Check.is("settled", bank.worker(0, 7), 5 * (1 - 8));
        Check.is("gone", bank.worker(0, 11), 1);
        Check.is("the other is not", bank.worker(1, 11), 0);
        Check.is("none booked", bank.now(5), 0);
        Check.is("kind of one that was booked", bank.day(0, 2, 2), 0);
        Check.is("kind of the one closed", bank.day(0, 0, 2), 2);
        Check.is("worked stays told", bank.day(0, 1, 1), 12);
        Check.is("changed stays", bank.day(0, 3, 5), 1);
        Check.is("one gone is not flagged", bank.endDay(), 0);
        Check.is("nor its day", bank.day(0, 1, 4), 0);
        Check.is("nor its balance moved", bank.worker(0, 0), 0);
        Check.is("worked stays told, behind the day", bank.worker(0, 8), 12);
        Check.is("load stays", bank.load(0, 2), 12);
        bank.endDay();
        Check.is("a lost booking does not come again", bank.day(0, 2, 2), 0);

        HoursBank other = Check.bankOf("bank 9 9 2 10;season 0 363 8 8 8 8 8 8 8;worker 5 364;");
        other.sick(0, true);
        other.leave(0);
        Check.is("sick stays told", other.day(0, 0, 2), 1);
        Check.is("its load too", other.day(0, 0, 3), 8);
        Check.is("not ahead of today", other.worker(0, 9), 0);
        other.endDay();
        Check.is("ahead of today", other.worker(0, 9), 1);

        HoursBank third = Check.bankOf("bank 9 9 2 10;season 0 363 8 8 8 8 8 8 8;worker 5 364;");
        third.book(0, 0, true);
        third.leave(0);
        Check.is("today is no more booked", third.day(0, 0, 2), 0);
    }

    private static void wrongInputs() {
        HoursBank bank = Check.bankOf("bank 9 9 2 10;season 0 363 8 8 8 8 8 8 8;worker 5 364;worker 5 364;");
        Check.is("now(10)", bank.now(10), -100000000);
        Check.is("now(-1)", bank.now(-1), -100000000);
        Check.is("now(most)", bank.now(FAR), -100000000);
        Check.is("now(least)", bank.now(DEEP), -100000000);
        for (int worker : new int[] {-1, 2, 4, FAR, DEEP}) {
            Check.throwsNoSuch("worker(" + worker + ", 0)", () -> bank.worker(worker, 0));
            Check.is("day of " + worker, bank.day(worker, 0, 0), -1);
            Check.is("load of " + worker, bank.load(worker, 0), -1);
        }
        for (int what : new int[] {-1, 12, FAR, DEEP}) {
            Check.throwsNoSuch("worker(0, " + what + ")", () -> bank.worker(0, what));
            Check.is("day of what " + what, bank.day(0, 0, what), -1);
        }
        Check.is("day(0, 0, 6)", bank.day(0, 0, 6), -1);
        for (int day : new int[] {-1, 364, FAR, DEEP}) {
            Check.is("day " + day, bank.day(0, day, 0), -1);
            Check.is("load on " + day, bank.load(0, day), -1);
        }
        Check.is("the last worker", bank.worker(1, 1), 364);
        Check.is("the last day", bank.day(1, 363, 0), 8);
    }

    private static void closeWith(HoursBank bank, int quarters) {
        bank.work(0, quarters);
        bank.endDay();
    }
}
