import java.nio.charset.StandardCharsets;
import java.util.Random;

/** Long runs of calls, good and bad ones, each answer compared with the model's. The seeds are fixed. */
public final class ModelTest {
    private static final int RUNS = 600;
    private static final int[] ODD = {-1, -2, 364, 365, 97, 96, 363, 4, 5, Integer.MAX_VALUE, Integer.MIN_VALUE, 0};

    private final Random random;
    private final HoursBank bank = new HoursBank();
    private final Model model = new Model();
    private final int closing;

    private ModelTest(int seed) {
        random = new Random(seed);
        closing = random.nextInt(4) == 0 ? 60 : 5 + random.nextInt(25);
    }

    public static void main(String[] args) {
        for (int seed = 1; seed <= RUNS; seed++) {
            new ModelTest(seed).run(seed);
        }
        Check.finish();
    }

    private void run(int seed) {
        tellText(goodText());
        for (int call = 0; call < 470; call++) {
            step("run " + seed + " call " + call + ": ");
        }
        compareAll("run " + seed + " at last: ");
    }

    private void step(String where) {
        int dice = random.nextInt(100);
        if (dice < closing) {
            same(where + "endDay()", bank.endDay(), model.endDay());
        } else if (dice < 96) {
            act(where);
        } else if (dice < 99) {
            same(where + "undo()", bank.undo(), model.undo());
        } else if (random.nextInt(3) == 0) {
            String text = random.nextInt(4) == 0 ? goodText() : spoiled(goodText());
            tellText(text);
        } else {
            tape(where);
        }
    }

    private void act(String where) {
        int w = worker();
        int d = day();
        int q = quarters();
        boolean is = random.nextInt(3) != 0;
        String args = w + ", " + d + ", " + q + ", " + is;
        switch (random.nextInt(16)) {
            case 0: case 1: same(where + "plan " + args, bank.plan(w, d, q), model.plan(w, d, q)); break;
            case 2: case 3: case 4: same(where + "work " + args, bank.work(w, q), model.work(w, q)); break;
            case 5: same(where + "sick " + args, bank.sick(w, is), model.sick(w, is)); break;
            case 6: case 7: same(where + "book " + args, bank.book(w, d, is), model.book(w, d, is)); break;
            case 8: leaveSometimes(where, w); break;
            default: ask(where, w, d, q); break;
        }
    }

    private void leaveSometimes(String where, int w) {
        if (random.nextInt(6) == 0) {
            same(where + "leave " + w, Check.throwing(() -> bank.leave(w)), Check.throwing(() -> model.leave(w)));
        } else {
            same(where + "undo()", bank.undo(), model.undo());
        }
    }

    private void ask(String where, int w, int d, int q) {
        int e = day();
        int what = random.nextInt(14) - 1;
        int extra = random.nextInt(199) - 99;
        String args = w + ", " + d + ", " + q + ", " + e + ", " + what + ", " + extra;
        same(where + "now " + args, bank.now(what), model.now(what));
        same(where + "worker " + args, Check.throwing(() -> bank.worker(w, what)), Check.throwing(() -> model.worker(w, what)));
        same(where + "day " + args, bank.day(w, d, what), model.day(w, d, what));
        same(where + "load " + args, bank.load(w, d), model.load(w, d));
        same(where + "room " + args, bank.room(w), model.room(w));
        same(where + "planned " + args, bank.planned(w, d, e), model.planned(w, d, e));
        same(where + "reaches " + args, bank.reaches(w, extra), model.reaches(w, extra));
        same(where + "cost " + args, bank.cost(w, d, q), model.cost(w, d, q));
        same(where + "due " + args, Check.throwing(() -> bank.due(w)), Check.throwing(() -> model.due(w)));
        same(where + "fault " + args, bank.fault(), model.fault());
    }

    private void compareAll(String where) {
        for (int what = -1; what <= 10; what++) {
            same(where + "now " + what, bank.now(what), model.now(what));
        }
        for (int w = -1; w <= 4; w++) {
            for (int what = -1; what <= 12; what++) {
                int asked = w;
                int about = what;
                same(where + "worker " + w + ", " + what,
                    Check.throwing(() -> bank.worker(asked, about)), Check.throwing(() -> model.worker(asked, about)));
            }
            for (int d = -1; d <= 364; d++) {
                for (int what = 0; what <= 5; what++) {
                    same(where + "day " + w + ", " + d + ", " + what, bank.day(w, d, what), model.day(w, d, what));
                }
            }
        }
    }

    private void tape(String where) {
        int n = random.nextInt(760) - 10;
        same(where + "end " + n, bank.end(n), model.end(n));
        int a = random.nextInt();
        same(where + "feed", bank.feed(a, a, a, a, a), model.feed(a, a, a, a, a));
        if (random.nextInt(3) == 0) {
            same(where + "text", bank.text(), model.text());
        }
    }

    private void tellText(String text) {
        bank.end(0);
        model.end(0);
        byte[] bytes = text.getBytes(StandardCharsets.ISO_8859_1);
        for (int at = 0; at < bytes.length; at += 20) {
            int[] n = new int[5];
            for (int i = 0; i < 5; i++) {
                n[i] = Check.number(bytes, at + 4 * i);
            }
            same("feed", bank.feed(n[0], n[1], n[2], n[3], n[4]), model.feed(n));
        }
        same("end", bank.end(bytes.length), model.end(bytes.length));
        same("text \"" + text + "\"", bank.text(), model.text());
        same("fault \"" + text + "\"", bank.fault(), model.fault());
    }

    private String goodText() {
        StringBuilder text = new StringBuilder();
        int window = 1 + random.nextInt(random.nextBoolean() ? 60 : 8);
        line(text, "bank", often(120, 9999), often(120, 9999), window, often(40 * window + 20, 9999));
        for (int i = random.nextInt(6); i > 0; i--) {
            int from = random.nextInt(364);
            int to = from + random.nextInt(364 - from);
            int q = 20 + random.nextInt(60);
            line(text, "season", from, to, q, q + 5, random.nextInt(97), q, q + 2, 0, random.nextInt(10));
        }
        for (int i = random.nextInt(4); i > 0; i--) {
            line(text, "notice", 1 + random.nextInt(60), often(301, 300));
        }
        for (int i = random.nextInt(8) == 0 ? 0 : 1 + random.nextInt(4); i > 0; i--) {
            line(text, "worker", 1 + often(random.nextBoolean() ? 999 : 9, 998), often(1000, 9999));
        }
        return text.toString();
    }

    /** Mostly a number below an end, now and then the greatest or the least that may be told. */
    private int often(int end, int most) {
        int dice = random.nextInt(16);
        return dice == 0 ? most : dice == 1 ? 0 : random.nextInt(end);
    }

    private void line(StringBuilder text, String word, int... numbers) {
        text.append(word);
        for (int number : numbers) {
            text.append(random.nextInt(9) == 0 ? "\n" : " ").append(number);
        }
        text.append(random.nextInt(9) == 0 ? " ;\n" : ";");
    }

    private String spoiled(String good) {
        StringBuilder text = new StringBuilder(good);
        String signs = "; \nabkz0919bankseason5?A\u00ff\0";
        for (int i = random.nextInt(4); i > 0 && text.length() > 0; i--) {
            int at = random.nextInt(text.length());
            char sign = signs.charAt(random.nextInt(signs.length()));
            switch (random.nextInt(4)) {
                case 0: text.setCharAt(at, sign); break;
                case 1: text.insert(at, sign); break;
                case 2: text.deleteCharAt(at); break;
                default: text.append(text.substring(Math.max(0, at - 12), at)); break;
            }
        }
        while (random.nextInt(3) == 0 && text.length() < 740) {
            text.insert(0, " ".repeat(Math.min(740 - text.length(), random.nextInt(400))));
        }
        text.setLength(Math.min(text.length(), 740));
        return text.toString();
    }

    private int worker() {
        return random.nextInt(12) == 0 ? odd() : random.nextInt(Math.max(1, model.now(1)));
    }

    private int day() {
        int today = model.now(0);
        switch (random.nextInt(8)) {
            case 0: return odd();
            case 1: return random.nextInt(364);
            case 2: return today - random.nextInt(10);
            case 3: return today;
            default: return today + random.nextInt(20);
        }
    }

    private int quarters() {
        return random.nextInt(12) == 0 ? odd() : random.nextInt(3) == 0 ? 0 : random.nextInt(97);
    }

    private int odd() {
        return ODD[random.nextInt(ODD.length)];
    }

    private static void same(String what, long got, long due) {
        Check.is(what, got, due);
    }

    private static void same(String what, boolean got, boolean due) {
        Check.is(what, got, due);
    }
}
