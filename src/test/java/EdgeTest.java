import java.util.ArrayList;
import java.util.Arrays;
import java.util.List;
import java.util.TreeSet;

/**
 * A test of its own for each sentence of the document that names a boundary:
 * too small, too large, empty, full, a wrap-around, a refused call. The tests
 * stand in the document's order, and each bears the sentence that it is about.
 */
public final class EdgeTest {
    private static final int NONE = InputRoom.NONE;
    private static final int LEAST = Integer.MIN_VALUE;
    private static final int MOST = Integer.MAX_VALUE;

    private static int sentences = 0;
    private static int wrong = 0;
    private static String sentence = "";

    private static void sentence(String text) {
        sentences++;
        sentence = text;
    }

    private static void due(long want, long got) {
        if (want != got) {
            complain("answered " + got + ", due is " + want);
        }
    }

    private static void due(boolean want, boolean got) {
        if (want != got) {
            complain("answered " + got + ", due is " + want);
        }
    }

    private static void complain(String text) {
        wrong++;
        StringBuilder lines = new StringBuilder();
        for (StackTraceElement e : new Throwable().getStackTrace()) {
            boolean helper = e.getMethodName().equals("complain") || e.getMethodName().equals("main")
                || e.getMethodName().equals("due");
            lines.append(helper ? "" : " " + e.getLineNumber());
        }
        System.out.println("\"" + sentence + "\", line" + lines + ": " + text);
    }

    /** A room with a process for each priority given: 0, 1, 2 and so on, all asleep. */
    private static InputRoom roomOf(int... priorities) {
        InputRoom x = new InputRoom();
        for (int p = 0; p < priorities.length; p++) {
            due(true, x.make(p, priorities[p]));
        }
        return x;
    }

    private static InputRoom roomOfAll(int priority) {
        int[] priorities = new int[32];
        Arrays.fill(priorities, priority);
        return roomOf(priorities);
    }

    /** A room in which process 0 is active with priority 4 and has done nothing yet. */
    private static InputRoom roomAtWork(int... acts) {
        InputRoom x = roomOf(4);
        plan(x, 0, acts);
        wake(x, 0);
        return x;
    }

    private static void plan(InputRoom x, int p, int... acts) {
        for (int i = 0; i < acts.length; i++) {
            due(0, x.plan(p, i, acts[i]));
        }
    }

    private static void wake(InputRoom x, int... ps) {
        for (int p : ps) {
            due(true, x.wake(p));
        }
    }

    private static void words(InputRoom x, int from, int to) {
        for (int w = from; w <= to; w++) {
            if (x.word(w) == NONE) {
                complain("word(" + w + ") was refused");
            }
        }
    }

    private static void dueRow(InputRoom x, int row, int... ps) {
        for (int i = 0; i < ps.length; i++) {
            due(ps[i], x.at(row, i));
            due(row, x.row(ps[i]));
        }
        due(NONE, x.at(row, ps.length));
    }

    private static void dueWords(InputRoom x, int... ws) {
        for (int i = 0; i < ws.length; i++) {
            due(ws[i], x.wordAt(i));
        }
        due(NONE, x.wordAt(ws.length));
    }

    // ---- What it is

    private static void the512thCall() {
        sentence("An object is used for at most 512 calls after it has been made");
        InputRoom x = roomOf(8);
        wake(x, 0);
        for (int i = 0; i < 509; i++) {
            due(1000, x.run(1000));
        }
        due(509000, x.codes());
    }

    private static void the512thCallWithAllThatCanBeAdded() {
        sentence("An object is used for at most 512 calls (the most signals and the latest clock)");
        // Each code sets the alarm or waits for it, so the clock goes 3 ticks on for every two codes.
        InputRoom x = roomOf(1);
        plan(x, 0, 64, 16, 64, 16, 64, 16, 64, 16);
        wake(x, 0);
        due(true, x.alarm(5, 1000000));
        due(0, x.suspend());
        due(0, x.run(1));
        due(1000000, x.clock());
        wake(x, 0);
        for (int i = 0; i < 490; i++) {
            due(1000, x.run(1000));
        }
        due(490000, x.codes());
        due(490000, x.done(0));
        // The clock goes on with every 64th code too, and the alarm then comes that much later or not.
        due(true, x.clock() >= 1000000 + 3 * 245000);
        due(0, x.extra(0));
        InputRoom y = roomOf(1);
        plan(y, 0, 32, 32, 32, 32, 32, 32, 32, 32);
        wake(y, 0);
        for (int i = 0; i < 501; i++) {
            due(1000, y.run(1000));
        }
        due(501000, y.extra(0));
    }

    // ---- Terms

    private static void processesAre0To31() {
        sentence("PROCESSES are 0 .. 31");
        InputRoom x = new InputRoom();
        for (int p : new int[] {LEAST, -32, -1, 32, 33, 64, MOST}) {
            due(false, x.make(p, 1));
        }
        due(true, x.make(0, 1));
        due(true, x.make(31, 1));
    }

    private static void noneMadeAtFirst() {
        sentence("none made at first");
        InputRoom x = new InputRoom();
        for (int p = 0; p < 32; p++) {
            due(NONE, x.row(p));
            due(NONE, x.done(p));
            due(false, x.wake(p));
            due(NONE, x.plan(p, 0, 0));
        }
    }

    private static void prioritiesAre1To8() {
        sentence("each has a PRIORITY 1 .. 8");
        InputRoom x = new InputRoom();
        for (int priority : new int[] {LEAST, -8, -1, 0, 9, 16, MOST}) {
            due(false, x.make(3, priority));
        }
        due(true, x.make(3, 1));
        due(true, x.make(4, 8));
        wake(x, 3, 4);
        due(4, x.present());
        dueRow(x, 1, 3);
    }

    private static void plansHaveEightActs() {
        sentence("a PLAN of eight ACTS (all 0 at first)");
        InputRoom x = roomOf(1);
        for (int i = 0; i < 8; i++) {
            due(0, x.plan(0, i, 120 + i));
        }
        due(NONE, x.plan(0, -1, 1));
        due(NONE, x.plan(0, 8, 1));
        for (int i = 0; i < 8; i++) {
            due(120 + i, x.plan(0, i, 0));
        }
    }

    private static void semaphoresAre0To15() {
        sentence("SEMAPHORES are 0 .. 15");
        InputRoom x = new InputRoom();
        for (int s : new int[] {LEAST, -16, -1, 16, 17, 32, MOST}) {
            due(false, x.signal(s));
        }
        due(true, x.signal(0));
        due(true, x.signal(15));
        for (int s = 0; s < 16; s++) {
            due(s == 0 || s == 15 ? 1 : 0, x.extra(s));
        }
    }

    private static void readyRowIsFull() {
        sentence("A row is in the order in which processes came into it (a ready row with all but one)");
        InputRoom x = roomOfAll(6);
        for (int p = 31; p >= 0; p--) {
            wake(x, p);
        }
        due(31, x.present());
        for (int i = 0; i < 31; i++) {
            due(30 - i, x.at(6, i));
        }
        due(NONE, x.at(6, 31));
        for (int p = 31; p >= 0; p--) {
            due(p, x.suspend());
        }
        due(NONE, x.suspend());
        due(NONE, x.at(6, 0));
    }

    private static void semaphoreRowIsFull() {
        sentence("A row is in the order in which processes came into it (a semaphore's row with all)");
        InputRoom x = roomOfAll(6);
        for (int p = 0; p < 32; p++) {
            due(0, x.plan(p, 0, 21));
            wake(x, (p + 16) % 32);
        }
        due(32, x.run(1000));
        for (int i = 0; i < 32; i++) {
            due((i + 16) % 32, x.at(21, i));
        }
        due(NONE, x.at(21, 32));
        for (int i = 0; i < 32; i++) {
            due(true, x.signal(5));
        }
        due(0, x.extra(5));
        due(16, x.present());
        due(NONE, x.at(21, 0));
        due(15, x.at(6, 30));
    }

    private static void rowEmptiesAndFillsAgain() {
        sentence("A row is in the order in which processes came into it (empty, and filled again)");
        InputRoom x = roomOf(5, 5, 5);
        wake(x, 0, 1, 2);
        due(0, x.suspend());
        due(1, x.suspend());
        due(NONE, x.at(5, 0));
        wake(x, 1, 0);
        dueRow(x, 5, 1, 0);
    }

    private static void processIsInOneRowAtMost() {
        sentence("A process is in one row at most");
        InputRoom x = new InputRoom();
        for (int p = 0; p < 32; p++) {
            due(true, x.make(p, 1 + p % 8));
            plan(x, p, 48, 32 + p % 3, 16 + (p + 1) % 3);
            wake(x, p);
        }
        due(77, x.run(77));
        TreeSet<Integer> seen = new TreeSet<>();
        for (int row = 1; row < 32; row++) {
            for (int i = 0; x.at(row, i) != NONE; i++) {
                due(true, seen.add(x.at(row, i)));
                due(row, x.row(x.at(row, i)));
            }
        }
        int inNoRow = 0;
        for (int p = 0; p < 32; p++) {
            inNoRow += x.row(p) == 0 ? 1 : 0;
        }
        due(32, seen.size() + inNoRow);
        due(1, inNoRow);
        due(0, x.row(x.active()));
    }

    private static void oneIsActiveAtMost() {
        sentence("or ACTIVE (one at most), or in no row: ASLEEP");
        InputRoom x = roomOf(2, 2, 2);
        wake(x, 0, 1);
        due(1, x.run(1));
        due(0, x.active());
        dueRow(x, 2, 1);
        due(0, x.row(2));
        due(false, x.wake(0));
        due(true, x.wake(2));
    }

    private static void presentOneMayBeNone() {
        sentence("THE PRESENT ONE is .. ; there may be none");
        InputRoom x = roomOf(2);
        due(NONE, x.present());
        wake(x, 0);
        due(0, x.present());
        due(1, x.run(1));
        due(0, x.present());
        due(0, x.suspend());
        due(NONE, x.present());
        due(0, x.active());
    }

    private static void wakeOneOfEqualPriority() {
        sentence("a present one whose priority is not less than that of x (equal)");
        InputRoom x = roomOf(1, 1, 8, 8);
        wake(x, 0, 1);
        due(0, x.present());
        dueRow(x, 1, 1);
        wake(x, 2, 3);
        due(2, x.present());
        dueRow(x, 8, 3);
    }

    private static void wakeOneOfOneLess() {
        sentence("a present one whose priority is not less than that of x (one more)");
        InputRoom x = roomOf(8, 7, 2, 1);
        wake(x, 0, 1, 3, 2);
        due(0, x.present());
        dueRow(x, 7, 1);
        dueRow(x, 1, 3);
        dueRow(x, 2, 2);
    }

    private static void wakeOneOfOneMore() {
        sentence("otherwise the present one, if there is one, comes into its own ready row, and a change to x is wanted");
        InputRoom x = roomOf(1, 2, 3, 4, 5, 6, 7, 8);
        for (int p = 0; p < 8; p++) {
            wake(x, p);
            due(p, x.present());
            due(0, x.row(p));
            if (p > 0) {
                dueRow(x, p, p - 1);
            }
        }
        due(NONE, x.active());
    }

    private static void wakeWhenThereIsNoPresentOne() {
        sentence("otherwise the present one, if there is one, .. (there is none)");
        InputRoom x = roomOf(8, 1);
        wake(x, 0);
        due(1, x.run(1));
        due(0, x.suspend());
        // The active one is no present one now: it does not come into a row, high as it is.
        wake(x, 1);
        due(1, x.present());
        due(0, x.row(0));
        due(NONE, x.at(8, 0));
        due(1, x.run(1));
        due(1, x.active());
    }

    private static void asideToTheHighest() {
        sentence("a change is wanted to the first one of the ready row of the highest priority that has one, which leaves it");
        InputRoom x = roomOf(8, 1, 8, 2, 7, 1, 8);
        wake(x, 0, 1, 2, 3, 4, 5, 6);
        int[] order = {0, 2, 6, 4, 3, 1, 5};
        for (int p : order) {
            due(p, x.present());
            due(0, x.row(p));
            due(p, x.suspend());
        }
        due(NONE, x.present());
    }

    private static void asideToNone() {
        sentence("to none, if no row has one");
        InputRoom x = roomOf(1);
        wake(x, 0);
        due(1, x.run(1));
        due(0, x.suspend());
        due(NONE, x.present());
        due(1, x.run(2));
        due(NONE, x.active());
        due(0, x.run(2));
    }

    private static void signalOfAnEmptyRow() {
        sentence("if there is none, it has one signal more too many");
        InputRoom x = roomOf(3);
        plan(x, 0, 25);
        wake(x, 0);
        due(1, x.run(5));
        due(true, x.signal(9));
        due(0, x.extra(9));
        due(NONE, x.at(25, 0));
        due(true, x.signal(9));
        due(1, x.extra(9));
        due(true, x.signal(9));
        due(2, x.extra(9));
    }

    private static void signalWakesTheFirstOnly() {
        sentence("TO SIGNAL a semaphore: the first of its row leaves it and is woken");
        InputRoom x = roomOf(3, 3);
        plan(x, 0, 25);
        plan(x, 1, 25);
        wake(x, 1, 0);
        due(2, x.run(5));
        dueRow(x, 25, 1, 0);
        due(true, x.signal(9));
        dueRow(x, 25, 0);
        due(1, x.present());
        due(true, x.signal(9));
        due(NONE, x.at(25, 0));
        dueRow(x, 3, 0);
    }

    private static void waitWhenThereIsNoPresentOne() {
        sentence("TO WAIT for one (the present one does; nothing, if there is none)");
        for (int extra = 0; extra < 2; extra++) {
            InputRoom x = roomAtWork(0, 20);
            due(1, x.run(1));
            if (extra == 1) {
                due(true, x.signal(4));
            }
            due(0, x.suspend());
            due(1, x.run(1));
            due(extra, x.extra(4));
            due(NONE, x.at(20, 0));
            due(0, x.row(0));
            due(2, x.done(0));
        }
    }

    private static void waitWithSignalsTooMany() {
        sentence("if it has signals too many, it has one less");
        InputRoom x = roomAtWork(16, 16, 16);
        due(true, x.signal(0));
        due(true, x.signal(0));
        due(1, x.run(1));
        due(1, x.extra(0));
        due(0, x.active());
        due(1, x.run(1));
        due(0, x.extra(0));
        due(0, x.active());
        due(1, x.run(1));
        due(0, x.extra(0));
        due(NONE, x.active());
        dueRow(x, 16, 0);
    }

    private static void waitWithNone() {
        sentence("otherwise the present one comes into its row and is put aside");
        InputRoom x = roomOf(4, 2);
        plan(x, 0, 31);
        wake(x, 0, 1);
        due(1, x.run(1));
        dueRow(x, 31, 0);
        due(1, x.active());
        due(0, x.extra(15));
    }

    private static void clockAt0AtFirst() {
        sentence("THE CLOCK is at 0 at first");
        InputRoom x = roomAtWork();
        due(0, x.clock());
        due(63, x.run(63));
        due(0, x.clock());
    }

    private static void wordsAre0To65535() {
        sentence("WORDS (0 .. 65535)");
        InputRoom x = new InputRoom();
        for (int w : new int[] {LEAST, -65536, -1, 65536, 65537, 131071, MOST}) {
            due(NONE, x.word(w));
        }
        due(1, x.word(0));
        due(2, x.word(65535));
        dueWords(x, 0, 65535);
    }

    private static void wordsLieInOrderAtMost64() {
        sentence("lie in the order in which they came, at most 64");
        InputRoom x = new InputRoom();
        for (int i = 0; i < 64; i++) {
            due(i + 1, x.word(65535 - i));
        }
        due(NONE, x.word(1));
        due(NONE, x.word(2));
        for (int i = 0; i < 64; i++) {
            due(65535 - i, x.wordAt(i));
        }
        due(NONE, x.wordAt(64));
    }

    private static void noInputAndNoAlarmAtFirst() {
        sentence("One semaphore may be told of words (INPUT), one may be told at a TICK (the ALARM); none at first");
        InputRoom x = new InputRoom();
        due(NONE, x.input());
        due(NONE, x.tick());
        due(1, x.word(1));
        due(0, x.run(1));
        due(0, x.clock());
        for (int s = 0; s < 16; s++) {
            due(0, x.extra(s));
        }
    }

    private static void planGoesRoundByEight() {
        sentence("the act of its plan with the number (how many it had done before) modulo 8");
        InputRoom x = roomAtWork(32, 33, 34, 35, 36, 37, 38, 39);
        for (int n = 0; n < 26; n++) {
            due(1, x.run(1));
            due(n / 8 + 1, x.extra(n % 8));
            due(n / 8, x.extra((n + 1) % 8) - (n % 8 == 7 ? 1 : 0));
            due(n + 1, x.done(0));
        }
        for (int s = 8; s < 16; s++) {
            due(0, x.extra(s));
        }
    }

    private static void eachGoesRoundByItsOwnCount() {
        sentence("the act of its plan with the number (how many it had done before) (of that process alone)");
        InputRoom x = roomOf(4, 4);
        plan(x, 0, 48, 32, 48);
        plan(x, 1, 48, 33, 48);
        wake(x, 0, 1);
        due(4, x.run(4));
        due(3, x.done(0));
        due(1, x.done(1));
        due(1, x.extra(0));
        due(0, x.extra(1));
        due(1, x.run(1));
        due(1, x.extra(0));
        due(1, x.extra(1));
    }

    /** A room in which every act that is more than nothing leaves a trace. */
    private static InputRoom roomWithTraces(int act) {
        InputRoom x = roomOf(4, 4, 3, 4);
        plan(x, 0, 0, act);
        plan(x, 3, 21);
        wake(x, 3);
        due(1, x.run(1));
        wake(x, 0, 1, 2);
        due(1, x.run(1));
        due(true, x.listen(7));
        due(true, x.alarm(6, 50));
        due(1, x.word(11));
        due(2, x.word(12));
        due(1, x.run(1));
        return x;
    }

    private static List<Long> state(InputRoom x) {
        List<Long> state = new ArrayList<>();
        state.add((long) x.active());
        state.add((long) x.present());
        state.add((long) x.clock());
        state.add(x.codes());
        state.add((long) x.input());
        state.add((long) x.tick());
        for (int p = 0; p < 32; p++) {
            state.add((long) x.done(p));
            state.add((long) x.row(p));
        }
        for (int row = 1; row < 32; row++) {
            for (int i = 0; i == 0 || x.at(row, i - 1) != NONE; i++) {
                state.add((long) x.at(row, i));
            }
        }
        for (int s = 0; s < 16; s++) {
            state.add((long) x.extra(s));
        }
        for (int i = 0; i < 65; i++) {
            state.add((long) x.wordAt(i));
        }
        return state;
    }

    private static void dueSame(InputRoom x, InputRoom y, String what) {
        List<Long> want = state(x);
        List<Long> got = state(y);
        if (!want.equals(got)) {
            complain(what + ": the state is " + got + ", due is " + want);
        }
    }

    private static void act0() {
        sentence("0 nothing");
        InputRoom x = roomWithTraces(0);
        due(0, x.active());
        dueRow(x, 4, 1);
        dueRow(x, 3, 2);
        dueRow(x, 21, 3);
        due(7, x.input());
        due(50, x.tick());
        dueWords(x, 11, 12);
        for (int s = 0; s < 16; s++) {
            due(s == 7 ? 2 : 0, x.extra(s));
        }
        due(0, x.clock());
    }

    private static void otherActsAreNothing() {
        sentence("Any other act is nothing");
        for (int act = 1; act < 128; act++) {
            if (act <= 15 || act >= 51 && act <= 63 || act >= 96) {
                dueSame(roomWithTraces(0), roomWithTraces(act), "act " + act);
            }
        }
    }

    private static void actsThatWait() {
        sentence("16 .. 31 the present one waits for semaphore act - 16");
        for (int act : new int[] {15, 16, 17, 30, 31}) {
            InputRoom x = roomAtWork(act);
            due(1, x.run(1));
            due(act == 15 ? 0 : act, x.row(0));
            due(act == 15 ? 0 : NONE, x.active());
            for (int row = 16; row < 32; row++) {
                due(row == act ? 0 : NONE, x.at(row, 0));
            }
        }
    }

    private static void actsThatSignal() {
        sentence("32 .. 47 semaphore act - 32 is signalled");
        for (int act : new int[] {32, 33, 46, 47, 48}) {
            InputRoom x = roomAtWork(act);
            due(1, x.run(1));
            due(0, x.row(0));
            for (int s = 0; s < 16; s++) {
                due(act == 32 + s ? 1 : 0, x.extra(s));
            }
        }
    }

    private static void giveWayWhenThereIsNoPresentOne() {
        sentence("48 the present one, if there is one, gives way");
        InputRoom x = roomAtWork(0, 48);
        due(1, x.run(1));
        due(0, x.suspend());
        due(1, x.run(1));
        due(NONE, x.active());
        due(0, x.row(0));
        due(2, x.done(0));
        due(true, x.wake(0));
    }

    private static void giveWayWhenItsRowIsEmpty() {
        sentence("if the ready row of its priority has one (it has none, but a lower row has)");
        InputRoom x = roomOf(4, 3);
        plan(x, 0, 48);
        wake(x, 0, 1);
        due(1, x.run(1));
        due(0, x.active());
        due(0, x.row(0));
        dueRow(x, 3, 1);
    }

    private static void giveWayAlone() {
        sentence("if the ready row of its priority has one (no row has one)");
        InputRoom x = roomAtWork(48, 48);
        due(2, x.run(2));
        due(0, x.active());
        due(0, x.row(0));
    }

    private static void giveWayToOne() {
        sentence("it comes into that row as the last one, and is put aside (one was there)");
        InputRoom x = roomOf(8, 8);
        plan(x, 0, 48);
        wake(x, 0, 1);
        due(1, x.run(1));
        due(1, x.active());
        dueRow(x, 8, 0);
    }

    private static void giveWayToAll() {
        sentence("it comes into that row as the last one, and is put aside (all the others were there)");
        InputRoom x = roomOfAll(1);
        for (int p = 0; p < 32; p++) {
            due(0, x.plan(p, 0, 48));
            wake(x, p);
        }
        due(1, x.run(1));
        due(1, x.active());
        due(2, x.at(1, 0));
        due(0, x.at(1, 30));
        due(NONE, x.at(1, 31));
        due(31, x.run(31));
        due(0, x.active());
        for (int i = 0; i < 31; i++) {
            due(i + 1, x.at(1, i));
        }
    }

    private static void firstWordGoes() {
        sentence("49 the first word goes");
        InputRoom x = roomAtWork(49, 49, 49);
        words(x, 5, 7);
        dueWords(x, 5, 6, 7);
        due(1, x.run(1));
        dueWords(x, 6, 7);
        due(1, x.run(1));
        dueWords(x, 7);
        due(1, x.run(1));
        dueWords(x);
        due(1, x.word(9));
        dueWords(x, 9);
    }

    private static void noWordGoes() {
        sentence("nothing if there is none");
        InputRoom x = roomAtWork(49, 49, 49, 0);
        due(true, x.listen(1));
        due(3, x.run(3));
        dueWords(x);
        due(1, x.word(9));
        due(2, x.word(10));
        dueWords(x, 9, 10);
        due(1, x.run(1));
        dueWords(x, 9, 10);
        due(2, x.extra(1));
    }

    private static void firstOf64WordsGoes() {
        sentence("49 the first word goes (of 64, and one comes in its place, more than once round)");
        InputRoom x = roomAtWork(49, 49, 49, 49, 49, 49, 49, 49);
        words(x, 100, 163);
        for (int i = 0; i < 70; i++) {
            due(NONE, x.word(1));
            due(1, x.run(1));
            due(NONE, x.wordAt(63));
            due(64, x.word(164 + i));
        }
        for (int i = 0; i < 64; i++) {
            due(170 + i, x.wordAt(i));
        }
        due(NONE, x.wordAt(64));
    }

    private static void allOf64WordsGo() {
        sentence("49 the first word goes (all of 64, and one act more)");
        InputRoom x = roomAtWork(49, 49, 49, 49, 49, 49, 49, 49);
        words(x, 100, 163);
        due(63, x.run(63));
        dueWords(x, 163);
        due(2, x.run(2));
        dueWords(x);
        due(1, x.word(7));
        dueWords(x, 7);
    }

    private static void inputBecomesNone() {
        sentence("50 a word is told: input becomes none");
        InputRoom x = roomAtWork(50, 50);
        due(true, x.listen(0));
        due(1, x.run(1));
        due(NONE, x.input());
        due(1, x.run(1));
        due(NONE, x.input());
        due(0, x.extra(0));
    }

    private static void actsThatSetTheAlarm() {
        sentence("64 .. 79 the alarm: semaphore act - 64 is told when the clock is 3 more than it is now");
        for (int act : new int[] {63, 64, 65, 78, 79}) {
            InputRoom x = roomAtWork(act);
            due(1, x.run(1));
            due(act == 63 ? NONE : 3, x.tick());
            due(0, x.input() == NONE ? 0 : 1);
            due(0, x.suspend());
            due(1, x.run(1));
            due(act == 63 ? 0 : 3, x.clock());
            due(NONE, x.tick());
            for (int s = 0; s < 16; s++) {
                due(act == 64 + s ? 1 : 0, x.extra(s));
            }
        }
    }

    private static void alarmIsToldAt3More() {
        sentence("is told when the clock is 3 more than it is now (not at 2 more)");
        InputRoom x = roomAtWork(64);
        due(1, x.run(1));
        due(0, x.plan(0, 1, 0));
        due(64, x.plan(0, 0, 0));
        due(190, x.run(190));
        due(2, x.clock());
        due(0, x.extra(0));
        due(1, x.run(1));
        due(3, x.clock());
        due(1, x.extra(0));
    }

    private static void alarmActAboveTheLastTick() {
        sentence("when the clock is 3 more than it is now (more than a tick that a call may name)");
        InputRoom x = roomOf(4);
        plan(x, 0, 64, 16);
        due(true, x.alarm(1, 1000000));
        due(0, x.run(1));
        due(1000000, x.clock());
        wake(x, 0);
        due(1, x.run(1));
        due(1000003, x.tick());
        due(1, x.run(1));
        due(1000003, x.clock());
        due(0, x.active());
    }

    private static void alarmActInPlaceOfAnother() {
        sentence("(in place of what was to be told before)");
        InputRoom x = roomAtWork(64, 65, 18);
        due(true, x.alarm(3, 1));
        due(1, x.run(1));
        due(3, x.tick());
        due(1, x.run(1));
        due(3, x.tick());
        due(1, x.run(1));
        due(3, x.clock());
        due(0, x.extra(3));
        due(0, x.extra(0));
        due(1, x.extra(1));
        due(NONE, x.tick());
    }

    private static void actsThatSetInput() {
        sentence("80 .. 95 input becomes semaphore act - 80");
        for (int act : new int[] {79, 80, 81, 94, 95, 96}) {
            InputRoom x = roomAtWork(act);
            due(1, x.run(1));
            due(act == 79 || act == 96 ? NONE : act - 80, x.input());
        }
    }

    private static void every64thCode() {
        sentence("Then, of all codes that were done, every 64th lets the clock go on by 1");
        InputRoom x = roomAtWork();
        for (int tick = 0; tick < 5; tick++) {
            due(63, x.run(63));
            due(tick, x.clock());
            due(1, x.run(1));
            due(tick + 1, x.clock());
        }
        due(320, x.codes());
    }

    private static void every64thCodeOfAll() {
        sentence("of all codes that were done, every 64th (not of one process)");
        InputRoom x = roomOf(4, 4);
        plan(x, 0, 48, 48, 48, 48, 48, 48, 48, 48);
        plan(x, 1, 48, 48, 48, 48, 48, 48, 48, 48);
        wake(x, 0, 1);
        due(63, x.run(63));
        due(0, x.clock());
        due(1, x.run(1));
        due(1, x.clock());
        due(32, x.done(0));
        due(32, x.done(1));
    }

    private static void theActComesBeforeTheClock() {
        sentence("Then, of all codes .. (the 64th code's own alarm counts from before)");
        InputRoom x = roomAtWork(0, 0, 0, 0, 0, 0, 0, 69);
        due(63, x.run(63));
        due(true, x.alarm(NONE, 0));
        due(1, x.run(1));
        due(1, x.clock());
        due(3, x.tick());
    }

    private static void noWordCame() {
        sentence("for each word that came since, in their order, input is POSTED (no word came)");
        InputRoom x = roomAtWork();
        due(true, x.listen(2));
        due(5, x.run(5));
        due(0, x.extra(2));
    }

    private static void wordIsPostedOnce() {
        sentence("for each word that came since (each once)");
        InputRoom x = roomAtWork();
        due(true, x.listen(2));
        due(1, x.word(1));
        due(1, x.run(1));
        due(1, x.extra(2));
        due(5, x.run(5));
        due(1, x.extra(2));
        due(2, x.word(1));
        due(3, x.word(1));
        due(1, x.run(1));
        due(3, x.extra(2));
    }

    private static void wordGoneBeforeItWasTold() {
        sentence("for each word that came since (it went with the very code behind which it is told)");
        InputRoom x = roomAtWork(0, 49, 49, 49);
        due(true, x.listen(2));
        due(1, x.run(1));
        due(1, x.word(1));
        due(1, x.run(1));
        dueWords(x);
        due(1, x.extra(2));
        due(1, x.word(2));
        due(2, x.word(3));
        due(1, x.run(1));
        dueWords(x, 3);
        due(3, x.extra(2));
        due(1, x.run(1));
        dueWords(x);
        due(3, x.extra(2));
    }

    private static void inputOfTheCodeItself() {
        sentence("input is POSTED (if there is one then) (the code behind which it is told made or ended it)");
        InputRoom x = roomAtWork(0, 85, 50, 86);
        due(1, x.run(1));
        due(1, x.word(1));
        due(1, x.run(1));
        due(1, x.extra(5));
        due(2, x.word(2));
        due(1, x.run(1));
        due(NONE, x.input());
        due(1, x.extra(5));
        due(true, x.listen(5));
        due(3, x.word(3));
        due(1, x.run(1));
        due(1, x.extra(5));
        due(1, x.extra(6));
    }

    private static void all64WordsArePosted() {
        sentence("for each word that came since, in their order, input is POSTED (64 came)");
        InputRoom x = roomOfAll(3);
        for (int p = 0; p < 32; p++) {
            due(0, x.plan(p, 0, 17));
            wake(x, p);
        }
        due(32, x.run(1000));
        due(true, x.listen(1));
        words(x, 0, 63);
        due(NONE, x.word(64));
        due(1, x.run(1));
        due(0, x.active());
        due(32, x.extra(1));
        for (int i = 0; i < 31; i++) {
            due(i + 1, x.at(3, i));
        }
        due(NONE, x.at(17, 0));
    }

    private static void noInputThen() {
        sentence("input is POSTED (if there is one then)");
        InputRoom x = roomAtWork();
        due(1, x.run(1));
        due(true, x.listen(2));
        due(1, x.word(1));
        due(true, x.listen(NONE));
        due(1, x.run(1));
        due(true, x.listen(2));
        due(1, x.run(1));
        due(0, x.extra(2));
        dueWords(x, 1);
    }

    private static void alarmBelowItsTick() {
        sentence("if there is an alarm, and the clock is at its tick or above (below it)");
        InputRoom x = roomAtWork();
        due(64, x.run(64));
        due(true, x.alarm(4, 2));
        due(63, x.run(63));
        due(1, x.clock());
        due(2, x.tick());
        due(0, x.extra(4));
    }

    private static void alarmAtItsTick() {
        sentence("if there is an alarm, and the clock is at its tick or above (at it)");
        InputRoom x = roomAtWork();
        due(64, x.run(64));
        due(true, x.alarm(4, 1));
        due(1, x.run(1));
        due(1, x.clock());
        due(NONE, x.tick());
        due(1, x.extra(4));
        due(1, x.run(1));
        due(1, x.extra(4));
    }

    private static void alarmAboveItsTick() {
        sentence("if there is an alarm, and the clock is at its tick or above (above it)");
        InputRoom x = roomAtWork();
        due(128, x.run(128));
        due(true, x.alarm(4, 0));
        due(0, x.extra(4));
        due(1, x.run(1));
        due(2, x.clock());
        due(NONE, x.tick());
        due(1, x.extra(4));
    }

    private static void noAlarm() {
        sentence("if there is an alarm (there is none)");
        InputRoom x = roomAtWork();
        due(true, x.alarm(4, 1));
        due(true, x.alarm(NONE, 1));
        due(200, x.run(200));
        due(0, x.extra(4));
        due(NONE, x.tick());
    }

    private static void allThatWasPostedInThatOrder() {
        sentence("Then all that was posted is signalled, in that order (the words before the alarm)");
        InputRoom x = roomOf(4, 4, 4);
        plan(x, 0, 16);
        plan(x, 1, 17);
        plan(x, 2, 16);
        wake(x, 0, 1, 2);
        due(3, x.run(9));
        due(true, x.alarm(1, 0));
        due(true, x.listen(0));
        due(1, x.word(1));
        due(2, x.word(2));
        due(1, x.run(1));
        due(0, x.active());
        dueRow(x, 4, 2, 1);
    }

    private static void inputAndAlarmAreOneSemaphore() {
        sentence("Then all that was posted is signalled (input and the alarm are one semaphore)");
        InputRoom x = roomOf(4);
        plan(x, 0, 31);
        wake(x, 0);
        due(1, x.run(9));
        due(true, x.alarm(15, 0));
        due(true, x.listen(15));
        due(1, x.word(1));
        due(1, x.run(1));
        due(0, x.active());
        due(1, x.extra(15));
    }

    private static void changeToAProcess() {
        sentence("then, if a change is wanted, it is done: that process is the active one then");
        InputRoom x = roomOf(4, 5);
        wake(x, 0);
        due(1, x.run(1));
        wake(x, 1);
        due(0, x.active());
        due(1, x.run(1));
        due(1, x.active());
        due(1, x.present());
        due(2, x.done(0));
        due(0, x.done(1));
    }

    private static void changeToNone() {
        sentence("(or none is)");
        InputRoom x = roomAtWork(16);
        due(1, x.run(2));
        due(NONE, x.active());
        due(NONE, x.present());
    }

    private static void noChange() {
        sentence("if a change is wanted (none is)");
        InputRoom x = roomOf(4, 4);
        wake(x, 0, 1);
        due(9, x.run(9));
        due(0, x.active());
        dueRow(x, 4, 1);
        due(0, x.done(1));
    }

    private static void clockGoesOnToTheTick() {
        sentence("If none is active then and there is an alarm, the clock goes on to its tick");
        InputRoom x = new InputRoom();
        due(true, x.alarm(0, 1));
        due(0, x.run(1));
        due(1, x.clock());
        due(true, x.alarm(0, 1000000));
        due(0, x.run(1000));
        due(1000000, x.clock());
        due(NONE, x.tick());
        due(2, x.extra(0));
    }

    private static void clockStaysWithoutAnAlarm() {
        sentence("If none is active then and there is an alarm (there is none)");
        InputRoom x = new InputRoom();
        due(0, x.run(1000));
        due(0, x.clock());
        due(true, x.alarm(0, 7));
        due(0, x.run(1));
        due(0, x.run(1));
        due(7, x.clock());
    }

    private static void clockStaysWhileOneIsActive() {
        sentence("If none is active then and there is an alarm (one is active)");
        InputRoom x = roomAtWork();
        due(true, x.alarm(0, 7));
        due(5, x.run(5));
        due(0, x.clock());
        due(7, x.tick());
        due(0, x.extra(0));
    }

    private static void clockDoesNotGoBack() {
        sentence("the clock goes on to its tick (a tick of the past)");
        InputRoom x = new InputRoom();
        due(true, x.alarm(0, 9));
        due(0, x.run(1));
        for (int tick : new int[] {0, 8, 9}) {
            due(true, x.alarm(1, tick));
            due(0, x.run(1));
            due(9, x.clock());
            due(NONE, x.tick());
        }
        due(3, x.extra(1));
    }

    private static void behindOnceMoreWakesOne() {
        sentence("and all of BEHIND is done once more (the alarm wakes one)");
        InputRoom x = roomAtWork(21, 22);
        due(true, x.alarm(5, 77));
        due(1, x.run(1));
        due(77, x.clock());
        due(0, x.active());
        due(NONE, x.tick());
        due(1, x.run(5));
        due(NONE, x.active());
        due(77, x.clock());
    }

    private static void behindOnceMoreWakesNobody() {
        sentence("and all of BEHIND is done once more (the alarm wakes nobody)");
        InputRoom x = roomAtWork(21);
        due(true, x.alarm(6, 77));
        due(1, x.run(5));
        due(77, x.clock());
        due(NONE, x.active());
        due(NONE, x.tick());
        due(1, x.extra(6));
        dueRow(x, 21, 0);
    }

    private static void wordsAreNotPostedOnceMore() {
        sentence("and all of BEHIND is done once more (no word came since)");
        InputRoom x = new InputRoom();
        due(true, x.listen(3));
        due(1, x.word(1));
        due(true, x.alarm(6, 77));
        due(0, x.run(1));
        due(77, x.clock());
        due(1, x.extra(3));
        due(1, x.extra(6));
    }

    private static void wordsKeepTheClockFromGoingOn() {
        sentence("If none is active then (the words woke one)");
        InputRoom x = roomAtWork(19);
        due(1, x.run(5));
        due(true, x.listen(3));
        due(1, x.word(1));
        due(true, x.alarm(6, 77));
        due(1, x.run(1));
        due(0, x.clock());
        due(77, x.tick());
        due(0, x.active());
    }

    // ---- A call that is refused changes nothing.

    private interface Call {
        boolean isRefused(InputRoom x);
    }

    /**
     * Process 0 is active and in ready row 3, since a change to 5 is wanted; 2
     * and 3 are ready, 1 waits for semaphore 1, 4 is asleep, 64 words lie there
     * of which none was told, and there are an input, an alarm and signals too many.
     */
    private static InputRoom busyRoom() {
        InputRoom x = roomOf(3, 5, 3, 2, 8, 6);
        plan(x, 0, 0, 33, 48, 49, 66);
        plan(x, 1, 17, 34, 49);
        plan(x, 2, 48, 49, 84, 21);
        plan(x, 3, 36, 48);
        plan(x, 5, 35, 19, 18, 18);
        wake(x, 1);
        due(1, x.run(1));
        wake(x, 0, 2, 3);
        due(1, x.run(1));
        wake(x, 5);
        due(true, x.listen(2));
        due(true, x.alarm(3, 40));
        due(true, x.signal(4));
        due(true, x.signal(4));
        words(x, 1000, 1063);
        return x;
    }

    private static void refused(Call call) {
        InputRoom x = busyRoom();
        due(true, call.isRefused(x));
        dueSame(busyRoom(), x, "right behind the call");
        InputRoom y = busyRoom();
        due(true, call.isRefused(y));
        InputRoom untouched = busyRoom();
        due(untouched.run(90), y.run(90));
        dueSame(untouched, y, "90 codes behind the call");
        InputRoom z = busyRoom();
        due(true, call.isRefused(z));
        InputRoom other = busyRoom();
        for (int p = 0; p < 32; p++) {
            for (int i = 0; i < 8; i++) {
                due(other.plan(p, i, 0), z.plan(p, i, 0));
            }
        }
    }

    private static void refusedMake() {
        sentence("A call that is refused changes nothing. (make)");
        int[][] calls = {{0, 3}, {0, 8}, {1, 1}, {4, 1}, {5, 6}, {-1, 1}, {32, 1}, {6, 0}, {6, 9}, {31, -1}, {LEAST, MOST}};
        for (int[] c : calls) {
            refused(x -> !x.make(c[0], c[1]));
        }
    }

    private static void refusedPlan() {
        sentence("A call that is refused changes nothing. (plan)");
        int[][] calls = {{0, -1, 7}, {0, 8, 7}, {0, 1, -1}, {0, 1, 128}, {5, 2, 256}, {6, 0, 7}, {-1, 0, 7}, {32, 0, 7},
            {1, MOST, 7}, {1, LEAST, 7}, {1, 1, MOST}, {1, 1, LEAST}, {-1, 8, 128}};
        for (int[] c : calls) {
            refused(x -> x.plan(c[0], c[1], c[2]) == NONE);
        }
    }

    private static void refusedWake() {
        sentence("A call that is refused changes nothing. (wake)");
        for (int p : new int[] {0, 1, 2, 3, 5, 6, 31, 32, -1, LEAST, MOST}) {
            refused(x -> !x.wake(p));
        }
    }

    private static void refusedSuspend() {
        sentence("A call that is refused changes nothing. (suspend)");
        InputRoom x = new InputRoom();
        due(NONE, x.suspend());
        dueSame(new InputRoom(), x, "right behind the call");
        // One is active and a change to none is wanted.
        InputRoom y = roomAtWork(0, 33, 34);
        InputRoom untouched = roomAtWork(0, 33, 34);
        for (InputRoom z : new InputRoom[] {y, untouched}) {
            due(true, z.alarm(3, 40));
            due(1, z.word(5));
            due(1, z.run(1));
            due(0, z.suspend());
        }
        due(NONE, y.suspend());
        due(NONE, y.suspend());
        dueSame(untouched, y, "right behind the call");
        due(1, untouched.run(9));
        due(1, y.run(9));
        due(1, y.extra(1));
        due(0, y.extra(2));
        due(40, y.clock());
        due(true, y.wake(0));
    }

    private static void refusedSignal() {
        sentence("A call that is refused changes nothing. (signal)");
        for (int s : new int[] {-1, 16, 17, LEAST, MOST}) {
            refused(x -> !x.signal(s));
        }
    }

    private static void refusedListen() {
        sentence("A call that is refused changes nothing. (listen)");
        for (int s : new int[] {-2, 16, 80, LEAST, MOST}) {
            refused(x -> !x.listen(s));
        }
    }

    private static void refusedAlarm() {
        sentence("A call that is refused changes nothing. (alarm)");
        int[][] calls = {{-2, 5}, {16, 5}, {LEAST, 5}, {MOST, 5}, {0, -1}, {0, 1000001}, {15, LEAST}, {15, MOST}, {16, -1}};
        for (int[] c : calls) {
            refused(x -> !x.alarm(c[0], c[1]));
        }
    }

    private static void refusedWord() {
        sentence("A call that is refused changes nothing. (word)");
        for (int w : new int[] {0, 5, 65535, 65536, -1, LEAST, MOST}) {
            refused(x -> x.word(w) == NONE);
        }
    }

    private static void refusedRun() {
        sentence("A call that is refused changes nothing. (run)");
        for (int n : new int[] {0, -1, 1001, LEAST, MOST}) {
            refused(x -> x.run(n) == NONE);
        }
        // Nobody is active, so a run that is not refused would begin with BEHIND.
        InputRoom x = roomOf(4);
        wake(x, 0);
        due(true, x.listen(1));
        due(1, x.word(1));
        due(true, x.alarm(2, 0));
        due(NONE, x.run(0));
        due(NONE, x.run(1001));
        due(NONE, x.active());
        due(0, x.extra(1));
        due(0, x.tick());
        due(0, x.codes());
        due(1, x.run(1));
        due(1, x.extra(1));
        due(1, x.extra(2));
    }

    private static void askingChangesNothing() {
        sentence("A call that is refused changes nothing. (those that only ask)");
        for (int no : new int[] {-1, -2, 32, 1000, LEAST, MOST}) {
            refused(x -> x.done(no) == NONE);
            refused(x -> x.row(no) == NONE);
            refused(x -> x.at(no, 0) == NONE);
            refused(x -> x.at(3, no) == NONE);
            refused(x -> x.at(17, no) == NONE);
            refused(x -> x.extra(no) == NONE);
        }
        for (int no : new int[] {-1, 64, 65, LEAST, MOST}) {
            refused(x -> x.wordAt(no) == NONE);
        }
    }

    // ---- The promises

    private static void newObject() {
        sentence("1: No processes, no words, no alarm, nobody is active.");
        InputRoom x = new InputRoom();
        due(NONE, x.row(0));
        due(NONE, x.row(31));
        due(NONE, x.wordAt(0));
        due(NONE, x.tick());
        due(NONE, x.active());
        due(0, x.run(1));
    }

    private static void madeAsleep() {
        sentence("2: Process p is made with a priority, asleep, its plan all 0, nothing done. Answers true");
        InputRoom x = new InputRoom();
        for (int p : new int[] {0, 31}) {
            due(true, x.make(p, 8));
            due(0, x.row(p));
            due(0, x.done(p));
            due(NONE, x.present());
            for (int i = 0; i < 8; i++) {
                due(0, x.plan(p, i, 0));
            }
        }
        due(0, x.run(1));
    }

    private static void madeAlready() {
        sentence("2: false when it is made already");
        InputRoom x = roomOf(4, 4, 4);
        plan(x, 0, 16);
        wake(x, 0, 1);
        due(2, x.run(2));
        due(false, x.make(0, 4));
        due(false, x.make(1, 5));
        due(false, x.make(2, 8));
        due(1, x.done(0));
        due(16, x.row(0));
        wake(x, 2);
        dueRow(x, 4, 2);
    }

    private static void noSuchProcessOrPriority() {
        sentence("2: or there is no such process or priority");
        InputRoom x = new InputRoom();
        due(false, x.make(-1, 1));
        due(false, x.make(32, 8));
        due(false, x.make(0, 0));
        due(false, x.make(31, 9));
        due(false, x.make(32, 9));
        due(NONE, x.row(0));
        due(NONE, x.row(31));
        due(true, x.make(0, 1));
    }

    private static void planAnswersWhatItWas() {
        sentence("3: Act i (0 .. 7) of the plan of process p becomes act (0 .. 127). Answers what it was");
        InputRoom x = roomOf(1, 1);
        for (int i : new int[] {0, 7}) {
            due(0, x.plan(0, i, 127));
            due(127, x.plan(0, i, 127));
            due(127, x.plan(0, i, 0));
            due(0, x.plan(0, i, 1));
            due(1, x.plan(0, i, 126));
            due(0, x.plan(1, i, 0));
        }
    }

    private static void noSuchActOrPlace() {
        sentence("3: NONE when there is no such");
        InputRoom x = roomOf(1);
        for (int i : new int[] {LEAST, -8, -1, 8, 16, MOST}) {
            due(NONE, x.plan(0, i, 1));
        }
        for (int act : new int[] {LEAST, -128, -1, 128, 256, MOST}) {
            due(NONE, x.plan(0, 0, act));
            due(NONE, x.plan(0, 7, act));
        }
        for (int i = 0; i < 8; i++) {
            due(0, x.plan(0, i, 0));
        }
    }

    private static void planOfOneNotMade() {
        sentence("3: or p is not made");
        InputRoom x = roomOf(1);
        for (int p : new int[] {LEAST, -1, 1, 31, 32, MOST}) {
            due(NONE, x.plan(p, 0, 1));
        }
        due(true, x.make(1, 1));
        due(0, x.plan(1, 0, 1));
    }

    private static void wakeOneAsleep() {
        sentence("4: A process is woken that is asleep. Answers true");
        InputRoom x = roomOfAll(8);
        due(true, x.wake(31));
        due(true, x.wake(0));
        due(31, x.present());
        dueRow(x, 8, 0);
    }

    private static void wakeOneNotMade() {
        sentence("4: false when it is not made");
        InputRoom x = roomOf(4);
        for (int p : new int[] {LEAST, -1, 1, 31, 32, MOST}) {
            due(false, x.wake(p));
        }
        due(NONE, x.present());
    }

    private static void wakeOneInARow() {
        sentence("4: false when it is .. in a row");
        InputRoom x = roomOf(8, 1, 8, 4);
        plan(x, 0, 16);
        plan(x, 3, 31);
        wake(x, 0);
        due(1, x.run(1));
        wake(x, 3);
        due(1, x.run(1));
        wake(x, 2, 1);
        due(2, x.present());
        due(1, x.row(1));
        due(false, x.wake(1));
        due(16, x.row(0));
        due(false, x.wake(0));
        due(31, x.row(3));
        due(false, x.wake(3));
    }

    private static void wakeTheActiveOne() {
        sentence("4: false when it is .. active");
        InputRoom x = roomOf(4);
        wake(x, 0);
        due(1, x.run(1));
        due(false, x.wake(0));
        due(0, x.suspend());
        due(0, x.row(0));
        due(NONE, x.present());
        due(false, x.wake(0));
        due(1, x.run(1));
        due(NONE, x.active());
        due(true, x.wake(0));
    }

    private static void wakeThePresentOne() {
        sentence("4: or the present one");
        InputRoom x = roomOf(4);
        wake(x, 0);
        due(NONE, x.active());
        due(0, x.present());
        due(0, x.row(0));
        due(false, x.wake(0));
        due(NONE, x.at(4, 0));
    }

    private static void suspendIsAsleep() {
        sentence("5: The present one is put aside, and is asleep. Answers it");
        InputRoom x = roomOf(1, 8);
        wake(x, 0, 1);
        due(1, x.suspend());
        due(0, x.row(1));
        due(0, x.present());
        due(true, x.wake(1));
        due(1, x.present());
        dueRow(x, 1, 0);
    }

    private static void suspendNone() {
        sentence("5: NONE when there is none");
        InputRoom x = roomOf(4);
        due(NONE, x.suspend());
        wake(x, 0);
        due(0, x.suspend());
        due(NONE, x.suspend());
        wake(x, 0);
        due(1, x.run(1));
        due(0, x.suspend());
        due(NONE, x.suspend());
        due(0, x.active());
    }

    private static void signalNoSuch() {
        sentence("6: A semaphore is signalled. Answers true; false when there is no such");
        InputRoom x = new InputRoom();
        due(false, x.signal(-1));
        due(true, x.signal(0));
        due(true, x.signal(15));
        due(false, x.signal(16));
        due(false, x.signal(NONE));
        due(1, x.extra(0));
        due(1, x.extra(15));
    }

    private static void listenToSemaphoreOrNone() {
        sentence("7: Input becomes a semaphore, or none for NONE. Answers true");
        InputRoom x = new InputRoom();
        due(true, x.listen(NONE));
        due(NONE, x.input());
        due(true, x.listen(0));
        due(0, x.input());
        due(true, x.listen(15));
        due(15, x.input());
        due(true, x.listen(NONE));
        due(NONE, x.input());
    }

    private static void listenToNeither() {
        sentence("7: false when s is neither");
        InputRoom x = new InputRoom();
        for (int first : new int[] {NONE, 15}) {
            due(true, x.listen(first));
            for (int s : new int[] {LEAST, -16, -2, 16, 32, MOST}) {
                due(false, x.listen(s));
                due(first, x.input());
            }
        }
    }

    private static void alarmAtEachEdge() {
        sentence("8: semaphore s is told at a tick (0 .. 1000000)");
        for (int s : new int[] {0, 15}) {
            for (int tick : new int[] {0, 1, 999999, 1000000}) {
                InputRoom x = new InputRoom();
                due(true, x.alarm(s, tick));
                due(tick, x.tick());
                due(0, x.run(1));
                due(tick, x.clock());
                due(NONE, x.tick());
                due(1, x.extra(s));
                due(0, x.extra(15 - s));
            }
        }
    }

    private static void alarmInPlaceOfWhatThereWas() {
        sentence("8: in place of what there was");
        InputRoom x = new InputRoom();
        due(true, x.alarm(1, 5));
        due(true, x.alarm(2, 9));
        due(9, x.tick());
        due(true, x.alarm(3, 2));
        due(2, x.tick());
        due(0, x.run(1));
        due(0, x.run(1));
        due(2, x.clock());
        due(0, x.extra(1));
        due(0, x.extra(2));
        due(1, x.extra(3));
    }

    private static void alarmForNone() {
        sentence("8: for NONE there is none (the tick does not count then)");
        for (int tick : new int[] {LEAST, -1, 0, 5, 1000000, 1000001, MOST}) {
            InputRoom x = new InputRoom();
            due(true, x.alarm(NONE, tick));
            due(NONE, x.tick());
            due(true, x.alarm(4, 5));
            due(true, x.alarm(NONE, tick));
            due(NONE, x.tick());
            due(0, x.run(1));
            due(0, x.clock());
            due(0, x.extra(4));
        }
    }

    private static void alarmIsNotSuch() {
        sentence("8: false when s or the tick is not such");
        InputRoom x = new InputRoom();
        for (int s : new int[] {LEAST, -16, -2, 16, 64, MOST}) {
            due(false, x.alarm(s, 5));
        }
        for (int tick : new int[] {LEAST, -1000000, -1, 1000001, MOST}) {
            due(false, x.alarm(0, tick));
            due(false, x.alarm(15, tick));
        }
        due(false, x.alarm(16, -1));
        due(NONE, x.tick());
    }

    private static void wordAnswersHowMany() {
        sentence("9: A word comes. Answers how many there are then");
        InputRoom x = roomAtWork(0, 49);
        due(1, x.word(0));
        due(2, x.word(0));
        due(2, x.run(2));
        due(2, x.word(0));
        dueWords(x, 0, 0);
    }

    private static void wordIsNone() {
        sentence("9: NONE when it is none");
        InputRoom x = new InputRoom();
        due(NONE, x.word(-1));
        due(NONE, x.word(65536));
        due(NONE, x.word(NONE));
        due(1, x.word(65535));
        due(2, x.word(0));
    }

    private static void wordsAreFull() {
        sentence("9: or there are 64");
        InputRoom x = roomAtWork(49);
        words(x, 1, 62);
        due(63, x.word(63));
        due(64, x.word(64));
        due(NONE, x.word(65));
        due(NONE, x.word(-1));
        due(1, x.run(1));
        due(64, x.word(66));
        due(NONE, x.word(67));
        due(2, x.wordAt(0));
        due(66, x.wordAt(63));
    }

    private static void runWhenNobodyIsActive() {
        sentence("10: If nobody is active, all of BEHIND is done.");
        InputRoom x = roomOf(4);
        due(true, x.listen(0));
        due(1, x.word(1));
        due(true, x.alarm(1, 6));
        due(0, x.run(1));
        due(1, x.extra(0));
        due(1, x.extra(1));
        due(6, x.clock());
        wake(x, 0);
        due(1, x.run(1));
    }

    private static void runWhenOneIsActive() {
        sentence("10: If nobody is active (one is, so BEHIND comes behind its code alone)");
        InputRoom x = roomOf(4, 8);
        plan(x, 0, 0, 32);
        wake(x, 0);
        due(1, x.run(1));
        wake(x, 1);
        due(1, x.run(1));
        due(2, x.done(0));
        due(1, x.extra(0));
        due(0, x.done(1));
        due(1, x.active());
    }

    private static void runUpToN() {
        sentence("10: Then up to n codes (1 .. 1000) are done");
        InputRoom x = roomAtWork();
        due(1, x.run(1));
        due(1, x.codes());
        due(2, x.run(2));
        due(999, x.run(999));
        due(1000, x.run(1000));
        due(2002, x.codes());
        due(2002, x.done(0));
    }

    private static void runAsLongAsSomebodyIsActive() {
        sentence("10: as long as somebody is active, and BEHIND after each. Answers how many");
        InputRoom x = roomAtWork(0, 0, 16);
        due(3, x.run(1000));
        due(0, x.run(1000));
        due(true, x.signal(0));
        due(8, x.run(1000));
        due(11, x.codes());
        due(0, x.run(1));
    }

    private static void runOfNoSuchNumber() {
        sentence("10: NONE when n is not such");
        InputRoom x = roomAtWork();
        for (int n : new int[] {LEAST, -1000, -1, 0, 1001, 65536, MOST}) {
            due(NONE, x.run(n));
        }
        due(0, x.codes());
        due(NONE, x.active());
    }

    private static void activeIsNone() {
        sentence("11: The active process; NONE when there is none");
        InputRoom x = roomAtWork(0, 16);
        due(NONE, x.active());
        due(1, x.run(1));
        due(0, x.active());
        due(1, x.run(1));
        due(NONE, x.active());
        InputRoom y = roomOfAll(2);
        wake(y, 31);
        due(1, y.run(1));
        due(31, y.active());
    }

    private static void presentIsNone() {
        sentence("12: The present one; NONE when there is none");
        InputRoom x = roomOfAll(2);
        due(NONE, x.present());
        wake(x, 31);
        due(31, x.present());
        due(31, x.suspend());
        due(NONE, x.present());
        wake(x, 0);
        due(0, x.present());
    }

    private static void clockFromItsFirstToItsLast() {
        sentence("13: The clock.");
        InputRoom x = roomAtWork();
        due(0, x.clock());
        due(64, x.run(64));
        due(1, x.clock());
        due(0, x.suspend());
        due(true, x.alarm(0, 1000000));
        due(1, x.run(1));
        due(1000000, x.clock());
        wake(x, 0);
        due(62, x.run(62));
        due(1000000, x.clock());
        due(1, x.run(1));
        due(1000001, x.clock());
    }

    private static void codesOfAll() {
        sentence("14: How many codes were done in all.");
        InputRoom x = roomOf(4, 4);
        due(0, x.codes());
        plan(x, 0, 16);
        wake(x, 0, 1);
        due(1, x.run(1));
        due(1, x.codes());
        due(1000, x.run(1000));
        due(1001, x.codes());
        due(1, x.suspend());
        due(1, x.run(1000));
        due(0, x.run(1000));
        due(1002, x.codes());
    }

    private static void doneOfOneNotMade() {
        sentence("15: How many codes process p has done; NONE when it is not made");
        InputRoom x = roomOf(4);
        for (int p : new int[] {LEAST, -1, 1, 31, 32, MOST}) {
            due(NONE, x.done(p));
        }
        due(0, x.done(0));
        due(true, x.make(31, 4));
        due(0, x.done(31));
        wake(x, 31);
        due(1000, x.run(1000));
        due(1000, x.done(31));
        due(0, x.done(0));
    }

    private static void rowInNoRow() {
        sentence("16: Where process p is: 0 in no row");
        InputRoom x = roomOf(4);
        due(0, x.row(0));
        wake(x, 0);
        due(0, x.row(0));
        due(1, x.run(1));
        due(0, x.row(0));
        due(0, x.suspend());
        due(0, x.row(0));
    }

    private static void rowOfEachPriority() {
        sentence("16: 1 .. 8 in the ready row of that priority");
        InputRoom x = roomOf(8, 1, 2, 3, 4, 5, 6, 7, 8);
        wake(x, 0, 1, 2, 3, 4, 5, 6, 7, 8);
        for (int p = 1; p < 9; p++) {
            due(p, x.row(p));
        }
    }

    private static void rowOfEachSemaphore() {
        sentence("16: 16 + s in the row of semaphore s");
        InputRoom x = roomOfAll(4);
        for (int s = 0; s < 16; s++) {
            due(0, x.plan(s, 0, 16 + s));
            wake(x, s);
        }
        due(16, x.run(99));
        for (int s = 0; s < 16; s++) {
            due(16 + s, x.row(s));
        }
    }

    private static void rowOfOneNotMade() {
        sentence("16: NONE when it is not made");
        InputRoom x = roomOf(4);
        for (int p : new int[] {LEAST, -1, 1, 31, 32, MOST}) {
            due(NONE, x.row(p));
        }
    }

    /** Process p of 1 .. 8 stands ready with priority p, and 16 + s waits for semaphore s. */
    private static InputRoom roomWithAllRows() {
        InputRoom x = new InputRoom();
        for (int s = 0; s < 16; s++) {
            due(true, x.make(16 + s, 4));
            due(0, x.plan(16 + s, 0, 16 + s));
            wake(x, 16 + s);
        }
        due(16, x.run(1000));
        due(true, x.make(0, 8));
        wake(x, 0);
        for (int p = 1; p < 9; p++) {
            due(true, x.make(p, p));
            wake(x, p);
        }
        return x;
    }

    private static void atEachRow() {
        sentence("17: of the ready row of a priority (row 1 .. 8), or of semaphore row - 16 (16 .. 31)");
        InputRoom x = roomWithAllRows();
        for (int row = -20; row < 60; row++) {
            boolean such = row >= 1 && row <= 8 || row >= 16 && row <= 31;
            due(such ? row : NONE, x.at(row, 0));
            due(NONE, x.at(row, 1));
        }
    }

    private static void atEachPlace() {
        sentence("17: The i-th process (0 the first)");
        InputRoom x = roomOfAll(8);
        for (int p = 0; p < 32; p++) {
            wake(x, p);
        }
        for (int i = -40; i < 80; i++) {
            due(i >= 0 && i < 31 ? i + 1 : NONE, x.at(8, i));
        }
    }

    private static void atNoneSuch() {
        sentence("17: NONE when there is none such");
        InputRoom x = roomWithAllRows();
        for (int no : new int[] {LEAST, LEAST + 16, LEAST + 17, -16, -1, 32, 256, MOST - 15, MOST}) {
            due(NONE, x.at(no, 0));
            due(NONE, x.at(1, no));
            due(NONE, x.at(8, no));
            due(NONE, x.at(16, no));
            due(NONE, x.at(31, no));
            due(NONE, x.at(no, no));
        }
        InputRoom y = new InputRoom();
        for (int row = 1; row < 32; row++) {
            due(NONE, y.at(row, 0));
        }
    }

    private static void extraNoSuch() {
        sentence("18: How many signals semaphore s has too many; NONE when there is no such");
        InputRoom x = new InputRoom();
        for (int s : new int[] {LEAST, -16, -1, 16, 32, MOST}) {
            due(NONE, x.extra(s));
        }
        due(0, x.extra(0));
        due(0, x.extra(15));
        for (int k = 0; k < 200; k++) {
            due(true, x.signal(15));
        }
        due(200, x.extra(15));
        due(0, x.extra(0));
    }

    private static void wordAtNoneSuch() {
        sentence("19: Word i of those that lie there; NONE when there is none such");
        InputRoom x = roomAtWork(49);
        for (int i : new int[] {LEAST, -64, -1, 0, 1, 63, 64, MOST}) {
            due(NONE, x.wordAt(i));
        }
        words(x, 500, 563);
        for (int i : new int[] {LEAST, -64, -1, 64, 65, 128, MOST}) {
            due(NONE, x.wordAt(i));
        }
        due(500, x.wordAt(0));
        due(563, x.wordAt(63));
        due(1, x.run(1));
        due(501, x.wordAt(0));
        due(563, x.wordAt(62));
        due(NONE, x.wordAt(63));
    }

    private static void inputIsNone() {
        sentence("20: The semaphore that is told of words; NONE when there is none");
        InputRoom x = roomAtWork(80, 50, 95);
        due(NONE, x.input());
        due(1, x.run(1));
        due(0, x.input());
        due(1, x.run(1));
        due(NONE, x.input());
        due(1, x.run(1));
        due(15, x.input());
        due(true, x.listen(NONE));
        due(NONE, x.input());
    }

    private static void tickIsNone() {
        sentence("21: The tick of the alarm; NONE when there is none");
        InputRoom x = roomAtWork();
        due(NONE, x.tick());
        due(true, x.alarm(0, 0));
        due(0, x.tick());
        due(1, x.run(1));
        due(NONE, x.tick());
        due(true, x.alarm(0, 1000000));
        due(1000000, x.tick());
        due(true, x.alarm(NONE, 3));
        due(NONE, x.tick());
    }

    private static void theObject() {
        the512thCall();
        the512thCallWithAllThatCanBeAdded();
    }

    private static void terms() {
        processesAre0To31();
        noneMadeAtFirst();
        prioritiesAre1To8();
        plansHaveEightActs();
        semaphoresAre0To15();
        readyRowIsFull();
        semaphoreRowIsFull();
        rowEmptiesAndFillsAgain();
        processIsInOneRowAtMost();
        oneIsActiveAtMost();
        presentOneMayBeNone();
        wakeOneOfEqualPriority();
        wakeOneOfOneLess();
        wakeOneOfOneMore();
        wakeWhenThereIsNoPresentOne();
        asideToTheHighest();
        asideToNone();
        signalOfAnEmptyRow();
        signalWakesTheFirstOnly();
        waitWhenThereIsNoPresentOne();
        waitWithSignalsTooMany();
        waitWithNone();
        clockAt0AtFirst();
        wordsAre0To65535();
        wordsLieInOrderAtMost64();
        noInputAndNoAlarmAtFirst();
    }

    private static void codes() {
        planGoesRoundByEight();
        eachGoesRoundByItsOwnCount();
        act0();
        otherActsAreNothing();
        actsThatWait();
        actsThatSignal();
        giveWayWhenThereIsNoPresentOne();
        giveWayWhenItsRowIsEmpty();
        giveWayAlone();
        giveWayToOne();
        giveWayToAll();
        firstWordGoes();
        noWordGoes();
        firstOf64WordsGoes();
        allOf64WordsGo();
        inputBecomesNone();
        actsThatSetTheAlarm();
        alarmIsToldAt3More();
        alarmActAboveTheLastTick();
        alarmActInPlaceOfAnother();
        actsThatSetInput();
        every64thCode();
        every64thCodeOfAll();
        theActComesBeforeTheClock();
    }

    private static void behind() {
        noWordCame();
        wordIsPostedOnce();
        wordGoneBeforeItWasTold();
        inputOfTheCodeItself();
        all64WordsArePosted();
        noInputThen();
        alarmBelowItsTick();
        alarmAtItsTick();
        alarmAboveItsTick();
        noAlarm();
        allThatWasPostedInThatOrder();
        inputAndAlarmAreOneSemaphore();
        changeToAProcess();
        changeToNone();
        noChange();
        clockGoesOnToTheTick();
        clockStaysWithoutAnAlarm();
        clockStaysWhileOneIsActive();
        clockDoesNotGoBack();
        behindOnceMoreWakesOne();
        behindOnceMoreWakesNobody();
        wordsAreNotPostedOnceMore();
        wordsKeepTheClockFromGoingOn();
    }

    private static void refusedCalls() {
        refusedMake();
        refusedPlan();
        refusedWake();
        refusedSuspend();
        refusedSignal();
        refusedListen();
        refusedAlarm();
        refusedWord();
        refusedRun();
        askingChangesNothing();
    }

    private static void promises1To10() {
        newObject();
        madeAsleep();
        madeAlready();
        noSuchProcessOrPriority();
        planAnswersWhatItWas();
        noSuchActOrPlace();
        planOfOneNotMade();
        wakeOneAsleep();
        wakeOneNotMade();
        wakeOneInARow();
        wakeTheActiveOne();
        wakeThePresentOne();
        suspendIsAsleep();
        suspendNone();
        signalNoSuch();
        listenToSemaphoreOrNone();
        listenToNeither();
        alarmAtEachEdge();
        alarmInPlaceOfWhatThereWas();
        alarmForNone();
        alarmIsNotSuch();
        wordAnswersHowMany();
        wordIsNone();
        wordsAreFull();
        runWhenNobodyIsActive();
        runWhenOneIsActive();
        runUpToN();
        runAsLongAsSomebodyIsActive();
        runOfNoSuchNumber();
    }

    private static void promises11To21() {
        activeIsNone();
        presentIsNone();
        clockFromItsFirstToItsLast();
        codesOfAll();
        doneOfOneNotMade();
        rowInNoRow();
        rowOfEachPriority();
        rowOfEachSemaphore();
        rowOfOneNotMade();
        atEachRow();
        atEachPlace();
        atNoneSuch();
        extraNoSuch();
        wordAtNoneSuch();
        inputIsNone();
        tickIsNone();
    }

    public static void main(String[] args) {
        theObject();
        terms();
        codes();
        behind();
        refusedCalls();
        promises1To10();
        promises11To21();
        System.out.println(wrong == 0 ? sentences + " sentences hold at their edges" : wrong + " answers are not as due");
        if (wrong != 0) {
            System.exit(1);
        }
    }
}
