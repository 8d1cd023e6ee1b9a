import java.util.ArrayList;
import java.util.List;
import java.util.Random;

/**
 * Long runs of calls beside a second writing of the document, sentence by
 * sentence and with lists. The runs come from fixed seeds, so they are the
 * same every time.
 */
public final class ModelTest {
    private static final int RUNS = 8000;
    // With the plans before them and the look at the state behind them they
    // stay under the 512 calls that an object is promised for.
    private static final int MOST_CALLS = 50;
    private static final int WHOLE_LIVES = 3000;
    private static final int CALLS_OF_A_LIFE = 512;

    /** The document's terms as they stand there; everything is looked up, nothing is kept twice. */
    private static final class Model {
        final Integer[] priority = new Integer[32];
        final int[][] plan = new int[32][8];
        final int[] done = new int[32];
        final List<List<Integer>> rows = new ArrayList<>();
        final int[] extra = new int[16];
        final List<Integer> words = new ArrayList<>();
        final List<Integer> came = new ArrayList<>();
        int active = -1;
        Integer wanted = null;
        int clock = 0;
        long codes = 0;
        int input = -1;
        int alarm = -1;
        int tick = -1;

        Model() {
            for (int i = 0; i < 32; i++) {
                rows.add(new ArrayList<>());
            }
        }

        boolean made(int p) {
            return p >= 0 && p <= 31 && priority[p] != null;
        }

        boolean semaphore(int s) {
            return s >= 0 && s <= 15;
        }

        int present() {
            return wanted != null ? wanted : active;
        }

        int row(int p) {
            if (!made(p)) {
                return -1;
            }
            int found = 0;
            for (int r = 1; r < 32; r++) {
                if (rows.get(r).contains(p)) {
                    if (found != 0) {
                        throw new IllegalStateException("in two rows");
                    }
                    found = r;
                }
            }
            return found;
        }

        void wakeIt(int x) {
            int present = present();
            if (present != -1 && priority[present] >= priority[x]) {
                rows.get(priority[x]).add(x);
            } else {
                if (present != -1) {
                    rows.get(priority[present]).add(present);
                }
                wanted = x;
            }
        }

        void putAside() {
            wanted = -1;
            for (int r = 8; r >= 1; r--) {
                if (!rows.get(r).isEmpty()) {
                    wanted = rows.get(r).remove(0);
                    return;
                }
            }
        }

        void signalIt(int s) {
            if (rows.get(16 + s).isEmpty()) {
                extra[s]++;
            } else {
                wakeIt(rows.get(16 + s).remove(0));
            }
        }

        void waitFor(int s) {
            int present = present();
            if (present == -1) {
                return;
            }
            if (extra[s] > 0) {
                extra[s]--;
            } else {
                rows.get(16 + s).add(present);
                putAside();
            }
        }

        void act(int act) {
            switch (act / 16) {
                case 1 -> waitFor(act % 16);
                case 2 -> signalIt(act % 16);
                case 3 -> otherAct(act);
                case 4 -> {
                    alarm = act % 16;
                    tick = clock + 3;
                }
                case 5 -> input = act % 16;
                default -> { }
            }
        }

        void otherAct(int act) {
            if (act == 48 && present() != -1 && !rows.get(priority[present()]).isEmpty()) {
                rows.get(priority[present()]).add(present());
                putAside();
            }
            if (act == 49 && !words.isEmpty()) {
                words.remove(0);
            }
            if (act == 50) {
                input = -1;
            }
        }

        void behind() {
            boolean again = true;
            while (again) {
                List<Integer> posted = new ArrayList<>();
                for (int i = 0; i < came.size(); i++) {
                    if (input != -1) {
                        posted.add(input);
                    }
                }
                came.clear();
                if (alarm != -1 && clock >= tick) {
                    posted.add(alarm);
                    alarm = -1;
                }
                for (int s : posted) {
                    signalIt(s);
                }
                if (wanted != null) {
                    active = wanted;
                    wanted = null;
                }
                again = active == -1 && alarm != -1;
                if (again) {
                    clock = tick;
                }
            }
        }

        long answer(String call, int a, int b, int c) {
            switch (call) {
                case "make":
                    if (a < 0 || a > 31 || made(a) || b < 1 || b > 8) {
                        return 0;
                    }
                    priority[a] = b;
                    return 1;
                case "plan":
                    if (!made(a) || b < 0 || b > 7 || c < 0 || c > 127) {
                        return -1;
                    }
                    int was = plan[a][b];
                    plan[a][b] = c;
                    return was;
                case "wake":
                    if (!made(a) || row(a) != 0 || active == a || present() == a) {
                        return 0;
                    }
                    wakeIt(a);
                    return 1;
                case "suspend":
                    int present = present();
                    if (present != -1) {
                        putAside();
                    }
                    return present;
                case "signal":
                    if (!semaphore(a)) {
                        return 0;
                    }
                    signalIt(a);
                    return 1;
                case "listen":
                    if (a != -1 && !semaphore(a)) {
                        return 0;
                    }
                    input = a;
                    return 1;
                case "alarm":
                    if (a != -1 && (!semaphore(a) || b < 0 || b > 1000000)) {
                        return 0;
                    }
                    alarm = a;
                    tick = b;
                    return 1;
                case "word":
                    if (a < 0 || a > 65535 || words.size() == 64) {
                        return -1;
                    }
                    words.add(a);
                    came.add(a);
                    return words.size();
                case "run":
                    return runIt(a);
                default:
                    return told(call, a, b);
            }
        }

        long told(String call, int a, int b) {
            switch (call) {
                case "active": return active;
                case "present": return present();
                case "clock": return clock;
                case "codes": return codes;
                case "done": return made(a) ? done[a] : -1;
                case "row": return row(a);
                case "at":
                    boolean such = a >= 1 && a <= 8 || a >= 16 && a <= 31;
                    return such && b >= 0 && b < rows.get(a).size() ? rows.get(a).get(b) : -1;
                case "extra": return semaphore(a) ? extra[a] : -1;
                case "wordAt": return a >= 0 && a < words.size() ? words.get(a) : -1;
                case "input": return input;
                case "tick": return alarm == -1 ? -1 : tick;
                default: throw new IllegalArgumentException(call);
            }
        }

        int runIt(int n) {
            if (n < 1 || n > 1000) {
                return -1;
            }
            if (active == -1) {
                behind();
            }
            int ran = 0;
            for (; ran < n && active != -1; ran++) {
                int number = done[active]++;
                act(plan[active][number % 8]);
                if (++codes % 64 == 0) {
                    clock++;
                }
                behind();
            }
            return ran;
        }
    }

    private static final String[] NAMES =
        {"make", "plan", "plan", "wake", "wake", "suspend", "signal", "listen", "alarm", "word", "word", "run", "run"};
    private static final String[] ALL_NAMES = {"make", "make", "plan", "plan", "plan", "wake", "wake", "suspend",
        "signal", "listen", "alarm", "word", "run", "run", "run", "active", "present", "clock", "codes", "done",
        "row", "at", "extra", "wordAt", "input", "tick"};
    /** The least and the most of what a call takes, for arguments that lie at these or one beside. */
    private static final int[] EDGES =
        {0, 1, 7, 8, 15, 16, 31, 32, 47, 48, 63, 64, 79, 80, 95, 96, 127, 1000, 65535, 1000000, -1, Integer.MIN_VALUE};

    private static int wrong = 0;
    private static StringBuilder told = new StringBuilder();

    private static void due(String call, long got, long want) {
        if (got != want) {
            wrong++;
            System.out.println("after " + told + call + " answered " + got + ", due is " + want);
        }
    }

    private static long answer(InputRoom x, String call, int a, int b, int c) {
        switch (call) {
            case "make": return x.make(a, b) ? 1 : 0;
            case "plan": return x.plan(a, b, c);
            case "wake": return x.wake(a) ? 1 : 0;
            case "suspend": return x.suspend();
            case "signal": return x.signal(a) ? 1 : 0;
            case "listen": return x.listen(a) ? 1 : 0;
            case "alarm": return x.alarm(a, b) ? 1 : 0;
            case "word": return x.word(a);
            case "run": return x.run(a);
            default: return told(x, call, a, b);
        }
    }

    private static long told(InputRoom x, String call, int a, int b) {
        switch (call) {
            case "active": return x.active();
            case "present": return x.present();
            case "clock": return x.clock();
            case "codes": return x.codes();
            case "done": return x.done(a);
            case "row": return x.row(a);
            case "at": return x.at(a, b);
            case "extra": return x.extra(a);
            case "wordAt": return x.wordAt(a);
            case "input": return x.input();
            case "tick": return x.tick();
            default: throw new IllegalArgumentException(call);
        }
    }

    private static void dueState(InputRoom x, Model m) {
        due("active()", x.active(), m.active);
        due("present()", x.present(), m.present());
        due("clock()", x.clock(), m.clock);
        due("codes()", x.codes(), m.codes);
        due("input()", x.input(), m.input);
        due("tick()", x.tick(), m.alarm == -1 ? -1 : m.tick);
        for (int p = -1; p <= 32; p++) {
            due("done(" + p + ")", x.done(p), m.made(p) ? m.done[p] : -1);
            due("row(" + p + ")", x.row(p), m.row(p));
        }
        for (int r = -1; r <= 32; r++) {
            List<Integer> row = r >= 1 && r <= 31 ? m.rows.get(r) : new ArrayList<>();
            for (int i = -1; i <= row.size(); i++) {
                due("at(" + r + ", " + i + ")", x.at(r, i), i >= 0 && i < row.size() ? row.get(i) : -1);
            }
        }
        for (int s = -1; s <= 16; s++) {
            due("extra(" + s + ")", x.extra(s), m.semaphore(s) ? m.extra[s] : -1);
        }
        for (int i = -1; i <= m.words.size(); i++) {
            due("wordAt(" + i + ")", x.wordAt(i), i >= 0 && i < m.words.size() ? m.words.get(i) : -1);
        }
    }

    /** Few processes and semaphores meet more often than many, so a run has bounds of its own. */
    private static void runOnce(long seed) {
        Random random = new Random(seed);
        InputRoom x = new InputRoom();
        Model m = new Model();
        told = new StringBuilder();
        int processes = random.nextInt(4) == 0 ? 32 : 2 + random.nextInt(6);
        int semaphores = random.nextInt(4) == 0 ? 16 : 1 + random.nextInt(3);
        int priorities = 1 + random.nextInt(8);
        for (int p = 0; p < processes; p++) {
            call(x, m, "make", p, 1 + random.nextInt(priorities), 0);
            for (int i = 0; i < (processes == 32 ? 2 : 8); i++) {
                call(x, m, "plan", p, i, act(random, semaphores));
            }
        }
        int calls = 1 + random.nextInt(MOST_CALLS);
        for (int k = 0; k < calls; k++) {
            String name = NAMES[random.nextInt(NAMES.length)];
            int a = argument(random, name, processes, semaphores);
            int b = name.equals("alarm") ? m.clock + random.nextInt(12) - 3 : random.nextInt(10) - 1;
            call(x, m, name, a, b, act(random, semaphores));
            due("present() then", x.present(), m.present());
        }
        dueState(x, m);
    }

    /** A whole life of an object, in which the calls that ask come among the others. */
    private static void liveOnce(long seed) {
        Random random = new Random(seed);
        InputRoom x = new InputRoom();
        Model m = new Model();
        told = new StringBuilder();
        int processes = random.nextInt(3) == 0 ? 32 : 2 + random.nextInt(10);
        int semaphores = random.nextInt(3) == 0 ? 16 : 1 + random.nextInt(4);
        boolean manyWords = random.nextInt(3) == 0;
        for (int k = 0; k < CALLS_OF_A_LIFE; k++) {
            String name = manyWords && random.nextInt(3) == 0 ? "word" : ALL_NAMES[random.nextInt(ALL_NAMES.length)];
            int a = random.nextInt(12) == 0 ? edge(random) : firstOf(random, name, processes, semaphores);
            int b = random.nextInt(12) == 0 ? edge(random) : secondOf(random, name, m.clock);
            int c = random.nextInt(12) == 0 ? edge(random) : act(random, semaphores);
            call(x, m, name, a, b, c);
        }
    }

    private static int edge(Random random) {
        return EDGES[random.nextInt(EDGES.length)] + random.nextInt(3) - 1;
    }

    private static int firstOf(Random random, String name, int processes, int semaphores) {
        switch (name) {
            case "done": case "row": return random.nextInt(processes);
            case "at": return random.nextInt(33);
            case "wordAt": return random.nextInt(65);
            default: return argument(random, name, processes, semaphores);
        }
    }

    private static int secondOf(Random random, String name, int clock) {
        switch (name) {
            case "make": return 1 + random.nextInt(8);
            case "plan": return random.nextInt(8);
            case "alarm": return clock + random.nextInt(12) - 3;
            default: return random.nextInt(4);
        }
    }

    private static void call(InputRoom x, Model m, String name, int a, int b, int c) {
        String call = name + "(" + a + ", " + b + ", " + c + ")";
        due(call, answer(x, name, a, b, c), m.answer(name, a, b, c));
        told.append(call).append("; ");
    }

    private static int act(Random random, int semaphores) {
        int s = random.nextInt(semaphores);
        switch (random.nextInt(12)) {
            case 0: case 1: return 16 + s;
            case 2: case 3: return 32 + s;
            case 4: return 48;
            case 5: return 49;
            case 6: return 50;
            case 7: return 64 + s;
            case 8: return 80 + s;
            case 9: return random.nextInt(128);
            default: return 0;
        }
    }

    private static int argument(Random random, String name, int processes, int semaphores) {
        if (random.nextInt(30) == 0) {
            int[] odd = {-2, -1, 16, 32, 1001, 65536, Integer.MIN_VALUE, Integer.MAX_VALUE};
            return odd[random.nextInt(odd.length)];
        }
        switch (name) {
            case "make": case "plan": case "wake": return random.nextInt(processes);
            case "word": return random.nextInt(65536);
            case "run": return 1 + random.nextInt(random.nextInt(8) == 0 ? 300 : 6);
            default: return random.nextInt(semaphores);
        }
    }

    public static void main(String[] args) {
        for (int seed = 0; seed < RUNS && wrong == 0; seed++) {
            runOnce(seed);
        }
        for (int seed = 0; seed < WHOLE_LIVES && wrong == 0; seed++) {
            liveOnce(seed);
        }
        System.out.println(wrong == 0 ? RUNS + WHOLE_LIVES + " runs are as the model's" : wrong + " answers are not as due");
        if (wrong != 0) {
            System.exit(1);
        }
    }
}
