import java.util.ArrayList;
import java.util.HashMap;
import java.util.HashSet;
import java.util.List;
import java.util.Map;
import java.util.NoSuchElementException;
import java.util.Set;
import java.util.regex.Matcher;
import java.util.regex.Pattern;

/**
 * The document told a second time, in another way: the acts that were done are kept in a list, and what
 * stands is found by doing all of them again from the text on. Slow and plain; to compare with.
 */
final class Model {
    private record Act(String name, int worker, int day, int value) {
    }

    private static final class Person {
        int rate;
        int leave;
        int balance;
        int overtime;
        int docked;
        int overtimeCoins;
        int changeCoins;
        int dockedCoins;
        int settled;
        boolean gone;
        final Map<Integer, Integer> changed = new HashMap<>();
        final Map<Integer, Integer> worked = new HashMap<>();
        final Set<Integer> sick = new HashSet<>();
        final Set<Integer> onLeave = new HashSet<>();
        final Set<Integer> flagged = new HashSet<>();
    }

    private final StringBuilder tape = new StringBuilder();
    private int fault = 0;
    private int[] bank = {0, 0, 1, 0};
    private List<int[]> seasons = List.of();
    private List<int[]> notices = List.of();
    private List<int[]> workers = List.of();
    private final List<Act> acts = new ArrayList<>();
    private int kept = 0;
    private int today = 0;
    private List<Person> people = new ArrayList<>();

    // ---- texts

    int feed(int... numbers) {
        if (tape.length() > 720) {
            return -1;
        }
        for (int number : numbers) {
            for (int i = 3; i >= 0; i--) {
                tape.append((char) (number >>> 8 * i & 255));
            }
        }
        return tape.length();
    }

    boolean end(int n) {
        boolean can = 0 <= n && n <= tape.length();
        if (can) {
            tape.setLength(n);
        }
        return can;
    }

    int text() {
        String whole = tape.toString();
        tape.setLength(0);
        fault = 0;
        List<int[]> newBanks = new ArrayList<>();
        List<int[]> newSeasons = new ArrayList<>();
        List<int[]> newNotices = new ArrayList<>();
        List<int[]> newWorkers = new ArrayList<>();
        int end = Math.min(700, whole.length());
        Matcher matcher = Pattern.compile("[a-z0-9]+|[^a-z0-9 \n]", Pattern.DOTALL).matcher(whole);
        List<Integer> line = null;
        String word = null;
        int lines = 0;
        while (matcher.find() && matcher.start() < end) {
            String token = matcher.group();
            int place = matcher.start();
            if (line == null) {
                word = token;
                List<int[]> rows = switch (word) {
                    case "bank" -> newBanks;
                    case "season" -> newSeasons;
                    case "notice" -> newNotices;
                    case "worker" -> newWorkers;
                    default -> null;
                };
                if (rows == null || word.equals("bank") != (lines == 0)) {
                    return failed(1, place);
                }
                if (rows.size() == most(word)) {
                    return failed(3, place);
                }
                line = new ArrayList<>();
            } else if (line.size() < bounds(word).length / 2) {
                if (!token.matches("[0-9]{1,4}")) {
                    return failed(1, place);
                }
                int number = Integer.parseInt(token);
                int at = line.size();
                boolean early = word.equals("season") && at == 1 && number < line.get(0);
                if (number < bounds(word)[2 * at] || number > bounds(word)[2 * at + 1] || early) {
                    return failed(2, place);
                }
                line.add(number);
            } else {
                if (!token.equals(";")) {
                    return failed(1, place);
                }
                int[] row = line.stream().mapToInt(Integer::intValue).toArray();
                (switch (word) {
                    case "bank" -> newBanks;
                    case "season" -> newSeasons;
                    case "notice" -> newNotices;
                    default -> newWorkers;
                }).add(row);
                line = null;
                lines++;
            }
        }
        if (line != null || whole.length() > 700) {
            return failed(1, end);
        }
        bank = newBanks.isEmpty() ? new int[] {0, 0, 1, 0} : newBanks.get(0);
        seasons = newSeasons;
        notices = newNotices;
        workers = newWorkers;
        acts.clear();
        kept = 0;
        replay();
        return lines;
    }

    private int failed(int kind, int place) {
        fault = kind;
        return -1 - place;
    }

    private static int most(String word) {
        return switch (word) {
            case "bank" -> 1;
            case "season" -> 5;
            case "notice" -> 3;
            default -> 4;
        };
    }

    private static int[] bounds(String word) {
        return switch (word) {
            case "bank" -> new int[] {0, 9999, 0, 9999, 1, 60, 0, 9999};
            case "season" -> new int[] {0, 363, 0, 363, 0, 96, 0, 96, 0, 96, 0, 96, 0, 96, 0, 96, 0, 96};
            case "notice" -> new int[] {1, 60, 0, 300};
            default -> new int[] {1, 999, 0, 9999};
        };
    }

    int fault() {
        return fault;
    }

    // ---- doing all again

    private void replay() {
        today = 0;
        people = new ArrayList<>();
        for (int[] row : workers) {
            Person person = new Person();
            person.rate = row[0];
            person.leave = row[1];
            people.add(person);
        }
        for (Act act : acts) {
            perform(act);
        }
    }

    private void perform(Act act) {
        Person person = act.worker < 0 ? null : people.get(act.worker);
        switch (act.name) {
            case "plan" -> {
                person.changeCoins += price(person, act.day, act.value);
                person.changed.put(act.day, act.value);
            }
            case "work" -> person.worked.put(act.day, act.value);
            case "sick" -> put(person.sick, act.day, act.value == 1);
            case "book" -> put(person.onLeave, act.day, act.value == 1);
            case "leave" -> {
                person.settled = settlement(person);
                person.balance = 0;
                person.gone = true;
                person.onLeave.removeIf(day -> day >= today);
            }
            default -> closeToday();
        }
    }

    private static void put(Set<Integer> days, int day, boolean is) {
        if (is) {
            days.add(day);
        } else {
            days.remove(day);
        }
    }

    private void closeToday() {
        for (Person person : people) {
            if (person.gone) {
                continue;
            }
            if (kind(person, today) == 0) {
                person.balance += worked(person, today) - plan(person, today);
            }
            if (person.balance > bank[1]) {
                int over = person.balance - bank[1];
                person.overtime += over;
                person.overtimeCoins += over * person.rate * 3 / 2;
                person.balance = bank[1];
            }
            if (person.balance < -bank[0]) {
                int under = -bank[0] - person.balance;
                person.docked += under;
                person.dockedCoins += under * person.rate;
                person.balance = -bank[0];
            }
            if (loads(person, today) > bank[3]) {
                person.flagged.add(today);
            }
        }
        today++;
    }

    private void did(String name, int worker, int day, int value) {
        Act act = new Act(name, worker, day, value);
        acts.add(act);
        kept = Math.min(10, kept + 1);
        perform(act);
    }

    // ---- of a person and a day

    private int plan(Person person, int day) {
        if (person.changed.containsKey(day)) {
            return person.changed.get(day);
        }
        int plan = 0;
        for (int[] season : seasons) {
            if (season[0] <= day && day <= season[1]) {
                plan = season[2 + day % 7];
            }
        }
        return plan;
    }

    private int kind(Person person, int day) {
        return person.sick.contains(day) ? 1 : person.onLeave.contains(day) ? 2 : 0;
    }

    private int worked(Person person, int day) {
        return person.worked.getOrDefault(day, 0);
    }

    private int oneLoad(Person person, int day) {
        return switch (kind(person, day)) {
            case 0 -> worked(person, day);
            case 1 -> plan(person, day);
            default -> 0;
        };
    }

    private int loads(Person person, int day) {
        int sum = 0;
        for (int i = 0; i < bank[2] && day - i >= 0; i++) {
            sum += oneLoad(person, day - i);
        }
        return sum;
    }

    private int left(Person person) {
        int left = person.leave;
        for (int day : person.onLeave) {
            left -= plan(person, day);
        }
        return person.gone ? 0 : left;
    }

    private int price(Person person, int day, int quarters) {
        int percent = 0;
        for (int[] notice : notices) {
            percent = notice[0] > day - today ? Math.max(percent, notice[1]) : percent;
        }
        return percent * person.rate * Math.abs(plan(person, day) - quarters) / 100;
    }

    private int settlement(Person person) {
        int quarters = person.balance + person.leave * today / 364;
        for (int day : person.onLeave) {
            quarters -= day < today ? plan(person, day) : 0;
        }
        return quarters * person.rate;
    }

    private Person person(int worker) {
        return worker >= 0 && worker < people.size() ? people.get(worker) : null;
    }

    private Person present(int worker) {
        Person person = person(worker);
        return person == null || person.gone ? null : person;
    }

    private static boolean isDay(int day) {
        return day >= 0 && day <= 363;
    }

    // ---- the face

    int now(int what) {
        int sum = 0;
        switch (what) {
            case 0:
                return today;
            case 1:
                return people.size();
            case 3:
                return seasons.size();
            case 8:
                return kept;
            case 9:
                return tape.length();
            case 2: case 4: case 5: case 6: case 7:
                for (Person person : people) {
                    sum += switch (what) {
                        case 2 -> person.gone ? 0 : 1;
                        case 4 -> person.changed.size();
                        case 5 -> (int) person.onLeave.stream().filter(day -> day >= today).count();
                        case 6 -> person.flagged.size();
                        default -> person.overtimeCoins + person.changeCoins + person.settled - person.dockedCoins;
                    };
                }
                return sum;
            default:
                return -100000000;
        }
    }

    int worker(int worker, int what) {
        Person person = person(worker);
        if (person == null || what < 0 || what > 11) {
            throw new NoSuchElementException();
        }
        return switch (what) {
            case 0 -> person.balance;
            case 1 -> left(person);
            case 2 -> person.overtime;
            case 3 -> person.docked;
            case 4 -> person.overtimeCoins;
            case 5 -> person.changeCoins;
            case 6 -> person.dockedCoins;
            case 7 -> person.settled;
            case 8 -> person.worked.entrySet().stream().filter(e -> e.getKey() < today).mapToInt(Map.Entry::getValue).sum();
            case 9 -> (int) person.sick.stream().filter(day -> day < today).count();
            case 10 -> person.flagged.size();
            default -> person.gone ? 1 : 0;
        };
    }

    int day(int worker, int day, int what) {
        Person person = person(worker);
        if (person == null || !isDay(day)) {
            return -1;
        }
        return switch (what) {
            case 0 -> plan(person, day);
            case 1 -> worked(person, day);
            case 2 -> kind(person, day);
            case 3 -> oneLoad(person, day);
            case 4 -> person.flagged.contains(day) ? 1 : 0;
            case 5 -> person.changed.containsKey(day) ? 1 : 0;
            default -> -1;
        };
    }

    int load(int worker, int day) {
        return person(worker) == null || !isDay(day) ? -1 : loads(person(worker), day);
    }

    int room(int worker) {
        Person person = present(worker);
        if (person == null || today == 364) {
            return -1;
        }
        int others = loads(person, today) - oneLoad(person, today);
        int best = -2;
        for (int quarters = 0; quarters <= 96; quarters++) {
            best = others + quarters <= bank[3] ? quarters : best;
        }
        return best;
    }

    int planned(int worker, int from, int to) {
        if (person(worker) == null || !isDay(from) || !isDay(to) || from > to) {
            return -1;
        }
        int sum = 0;
        for (int day = from; day <= to; day++) {
            sum += plan(person(worker), day);
        }
        return sum;
    }

    int reaches(int worker, int extra) {
        Person person = present(worker);
        if (person == null || extra < -96 || extra > 96) {
            return -1;
        }
        int balance = person.balance;
        for (int day = today; day < 364; day++) {
            if (person.onLeave.contains(day) || person.sick.contains(day)) {
                continue;
            }
            int plan = plan(person, day);
            int would = plan + extra < 0 ? 0 : plan + extra > 96 ? 96 : plan + extra;
            balance += would - plan;
            if (balance > bank[1] || -balance > bank[0]) {
                return day;
            }
        }
        return -2;
    }

    int cost(int worker, int day, int quarters) {
        Person person = present(worker);
        if (person == null || day < today || day > 363 || quarters < 0 || quarters > 96 || kind(person, day) == 2) {
            return -1;
        }
        return price(person, day, quarters);
    }

    int due(int worker) {
        if (present(worker) == null) {
            throw new NoSuchElementException();
        }
        return settlement(present(worker));
    }

    int plan(int worker, int day, int quarters) {
        int cost = cost(worker, day, quarters);
        if (cost != -1) {
            did("plan", worker, day, quarters);
        }
        return cost;
    }

    boolean work(int worker, int quarters) {
        Person person = present(worker);
        boolean can = person != null && today < 364 && quarters >= 0 && quarters <= 96 && kind(person, today) == 0;
        if (can) {
            did("work", worker, today, quarters);
        }
        return can;
    }

    boolean sick(int worker, boolean is) {
        Person person = present(worker);
        if (person == null || today == 364 || person.sick.contains(today) == is
                || person.onLeave.contains(today) || worked(person, today) > 0) {
            return false;
        }
        did("sick", worker, today, is ? 1 : 0);
        return true;
    }

    int book(int worker, int day, boolean is) {
        Person person = present(worker);
        if (person == null || day < today || day > 363 || person.onLeave.contains(day) == is
                || person.sick.contains(day) || worked(person, day) > 0) {
            return -1;
        }
        if (is && left(person) < plan(person, day)) {
            return -2;
        }
        did("book", worker, day, is ? 1 : 0);
        return left(person);
    }

    int endDay() {
        if (today == 364) {
            return -1;
        }
        int closed = today;
        did("endDay", -1, 0, 0);
        return (int) people.stream().filter(person -> person.flagged.contains(closed)).count();
    }

    int leave(int worker) {
        if (present(worker) == null) {
            throw new NoSuchElementException();
        }
        did("leave", worker, 0, 0);
        return people.get(worker).settled;
    }

    int undo() {
        if (kept == 0) {
            return -1;
        }
        kept--;
        acts.remove(acts.size() - 1);
        replay();
        return kept;
    }
}
