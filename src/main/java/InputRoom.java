/**
 * Processes that take turns by priority and work by plans of eight acts, with
 * words that come in from outside, a clock that goes on with the work, and an
 * alarm.
 */
public final class InputRoom {
    public static final int NONE = -1;

    private static final int PROCESSES = 32;
    private static final int PRIORITIES = 8;
    private static final int SEMAPHORES = 16;
    private static final int PLAN_LENGTH = 8;
    private static final int LAST_ACT = 127;
    private static final int MOST_WORDS = 64;
    private static final int LAST_WORD = 65535;
    private static final int LAST_TICK = 1000000;
    private static final int MOST_CODES_A_RUN = 1000;
    private static final int CODES_A_TICK = 64;
    private static final int TICKS_TO_ALARM = 3;

    private static final int NO_ROW = 0;
    private static final int FIRST_SEMAPHORE_ROW = 16;

    // Acts that name a semaphore are one of these and the semaphore's number.
    private static final int ACT_WAIT = 16;
    private static final int ACT_SIGNAL = 32;
    private static final int ACT_GIVE_WAY = 48;
    private static final int ACT_DROP_WORD = 49;
    private static final int ACT_NO_INPUT = 50;
    private static final int ACT_ALARM = 64;
    private static final int ACT_LISTEN = 80;

    private final Proc[] processes = new Proc[PROCESSES];
    private final Row[] readyRows = new Row[PRIORITIES];
    private final Semaphore[] semaphores = new Semaphore[SEMAPHORES];
    private final Words words = new Words();

    private Proc active;
    // Two fields, because a change to none (wantedOne null) may be wanted too.
    private boolean changeWanted;
    private Proc wantedOne;

    private int clock;
    private long codes;
    private Semaphore input;
    private Semaphore alarmed;
    private int alarmTick;

    public InputRoom() {
        for (int i = 0; i < PRIORITIES; i++) {
            readyRows[i] = new Row(i + 1);
        }
        for (int s = 0; s < SEMAPHORES; s++) {
            semaphores[s] = new Semaphore(s);
        }
    }

    public boolean make(int p, int priority) {
        if (p < 0 || p >= PROCESSES || processes[p] != null) {
            return false;
        }
        if (priority < 1 || priority > PRIORITIES) {
            return false;
        }
        processes[p] = new Proc(p, priority, readyRows[priority - 1]);
        return true;
    }

    public int plan(int p, int i, int act) {
        Proc process = processNumbered(p);
        if (process == null || i < 0 || i >= PLAN_LENGTH || act < 0 || act > LAST_ACT) {
            return NONE;
        }
        int before = process.acts[i];
        process.acts[i] = act;
        return before;
    }

    public boolean wake(int p) {
        Proc process = processNumbered(p);
        if (process == null || process.rowNumber != NO_ROW) {
            return false;
        }
        if (process == active || process == presentOne()) {
            return false;
        }
        wakeUp(process);
        return true;
    }

    public int suspend() {
        Proc suspended = presentOne();
        if (suspended == null) {
            return NONE;
        }
        putPresentAside();
        return suspended.number;
    }

    public boolean signal(int s) {
        if (!isSemaphore(s)) {
            return false;
        }
        signalOnce(semaphores[s]);
        return true;
    }

    public boolean listen(int s) {
        if (s == NONE) {
            input = null;
            return true;
        }
        if (!isSemaphore(s)) {
            return false;
        }
        input = semaphores[s];
        return true;
    }

    public boolean alarm(int s, int tick) {
        if (s == NONE) {
            alarmed = null;
            return true;
        }
        if (!isSemaphore(s) || tick < 0 || tick > LAST_TICK) {
            return false;
        }
        setAlarm(semaphores[s], tick);
        return true;
    }

    public int word(int w) {
        return w < 0 || w > LAST_WORD ? NONE : words.add(w);
    }

    public int run(int n) {
        if (n < 1 || n > MOST_CODES_A_RUN) {
            return NONE;
        }
        if (active == null) {
            doBehind();
        }
        int ran = 0;
        while (ran < n && active != null) {
            doCode(active);
            doBehind();
            ran++;
        }
        return ran;
    }

    public int active() {
        return numberOf(active);
    }

    public int present() {
        return numberOf(presentOne());
    }

    public int clock() {
        return clock;
    }

    public long codes() {
        return codes;
    }

    public int done(int p) {
        Proc process = processNumbered(p);
        return process == null ? NONE : process.codesDone;
    }

    public int row(int p) {
        Proc process = processNumbered(p);
        return process == null ? NONE : process.rowNumber;
    }

    public int at(int row, int i) {
        if (row >= 1 && row <= PRIORITIES) {
            return numberOf(readyRows[row - 1].processAt(i));
        }
        if (isSemaphore(row - FIRST_SEMAPHORE_ROW)) {
            return numberOf(semaphores[row - FIRST_SEMAPHORE_ROW].waiting.processAt(i));
        }
        return NONE;
    }

    public int extra(int s) {
        return isSemaphore(s) ? semaphores[s].extraSignals : NONE;
    }

    public int wordAt(int i) {
        return words.get(i);
    }

    public int input() {
        return input == null ? NONE : input.number;
    }

    public int tick() {
        return alarmed == null ? NONE : alarmTick;
    }

    private static boolean isSemaphore(int s) {
        return s >= 0 && s < SEMAPHORES;
    }

    private static int numberOf(Proc process) {
        return process == null ? NONE : process.number;
    }

    private Proc processNumbered(int p) {
        return p >= 0 && p < PROCESSES ? processes[p] : null;
    }

    private Proc presentOne() {
        return changeWanted ? wantedOne : active;
    }

    private void wantChangeTo(Proc process) {
        changeWanted = true;
        wantedOne = process;
    }

    private void wakeUp(Proc woken) {
        Proc present = presentOne();
        if (present != null && present.priority >= woken.priority) {
            woken.ready.append(woken);
            return;
        }
        if (present != null) {
            present.ready.append(present);
        }
        wantChangeTo(woken);
    }

    private void putPresentAside() {
        Proc next = null;
        for (int i = PRIORITIES - 1; i >= 0 && next == null; i--) {
            next = readyRows[i].takeFirst();
        }
        wantChangeTo(next);
    }

    private void signalOnce(Semaphore semaphore) {
        Proc first = semaphore.waiting.takeFirst();
        if (first == null) {
            semaphore.extraSignals++;
        } else {
            wakeUp(first);
        }
    }

    private void waitFor(Semaphore semaphore) {
        Proc present = presentOne();
        if (present == null) {
            return;
        }
        if (semaphore.extraSignals > 0) {
            semaphore.extraSignals--;
            return;
        }
        semaphore.waiting.append(present);
        putPresentAside();
    }

    private void giveWay() {
        Proc present = presentOne();
        if (present == null || present.ready.isEmpty()) {
            return;
        }
        present.ready.append(present);
        putPresentAside();
    }

    private void setAlarm(Semaphore semaphore, int tick) {
        alarmed = semaphore;
        alarmTick = tick;
    }

    private void doCode(Proc worker) {
        int act = worker.nextAct();
        worker.codesDone++;
        doAct(act);
        codes++;
        if (codes % CODES_A_TICK == 0) {
            clock++;
        }
    }

    private void doAct(int act) {
        if (isSemaphore(act - ACT_WAIT)) {
            waitFor(semaphores[act - ACT_WAIT]);
        } else if (isSemaphore(act - ACT_SIGNAL)) {
            signalOnce(semaphores[act - ACT_SIGNAL]);
        } else if (act == ACT_GIVE_WAY) {
            giveWay();
        } else if (act == ACT_DROP_WORD) {
            words.dropFirst();
        } else if (act == ACT_NO_INPUT) {
            input = null;
        } else if (isSemaphore(act - ACT_ALARM)) {
            setAlarm(semaphores[act - ACT_ALARM], clock + TICKS_TO_ALARM);
        } else if (isSemaphore(act - ACT_LISTEN)) {
            input = semaphores[act - ACT_LISTEN];
        }
    }

    private void doBehind() {
        settle();
        if (active == null && alarmed != null) {
            // Once is enough: the alarm goes off now, and nothing in settle sets one.
            clock = alarmTick;
            settle();
        }
    }

    // No list of what was posted is kept: a signal changes neither input nor
    // alarm nor clock, so to signal at once comes to the same.
    private void settle() {
        signalNewWords();
        signalDueAlarm();
        if (changeWanted) {
            active = wantedOne;
            changeWanted = false;
            wantedOne = null;
        }
    }

    private void signalNewWords() {
        int told = words.takeUntold();
        if (input == null) {
            return;
        }
        for (int i = 0; i < told; i++) {
            signalOnce(input);
        }
    }

    private void signalDueAlarm() {
        if (alarmed == null || clock < alarmTick) {
            return;
        }
        Semaphore due = alarmed;
        alarmed = null;
        signalOnce(due);
    }

    // Not named Process, which is a class of the library.
    private static final class Proc {
        final int number;
        final int priority;
        final Row ready;
        final int[] acts = new int[PLAN_LENGTH];
        int codesDone;
        int rowNumber = NO_ROW;
        // The one behind it in its row: a process is in one row at most.
        Proc behind;

        Proc(int number, int priority, Row ready) {
            this.number = number;
            this.priority = priority;
            this.ready = ready;
        }

        int nextAct() {
            return acts[Math.floorMod(codesDone, PLAN_LENGTH)];
        }
    }

    private static final class Row {
        final int rowNumber;
        private Proc first;
        private Proc last;

        Row(int rowNumber) {
            this.rowNumber = rowNumber;
        }

        boolean isEmpty() {
            return first == null;
        }

        void append(Proc process) {
            process.rowNumber = rowNumber;
            if (last == null) {
                first = process;
            } else {
                last.behind = process;
            }
            last = process;
        }

        Proc takeFirst() {
            Proc taken = first;
            if (taken == null) {
                return null;
            }
            first = taken.behind;
            if (first == null) {
                last = null;
            }
            taken.behind = null;
            taken.rowNumber = NO_ROW;
            return taken;
        }

        Proc processAt(int i) {
            if (i < 0 || i >= PROCESSES) {
                return null;
            }
            Proc process = first;
            for (int k = 0; k < i && process != null; k++) {
                process = process.behind;
            }
            return process;
        }
    }

    private static final class Semaphore {
        final int number;
        final Row waiting;
        int extraSignals;

        Semaphore(int number) {
            this.number = number;
            this.waiting = new Row(FIRST_SEMAPHORE_ROW + number);
        }
    }

    /** A ring, so that the first word can go without moving the others. */
    private static final class Words {
        private final int[] ring = new int[MOST_WORDS];
        private int start;
        private int count;
        // Counted apart from the words that lie here: a word may be dropped
        // before it was told, and is told all the same.
        private int untold;

        int add(int word) {
            if (count >= MOST_WORDS) {
                return NONE;
            }
            ring[place(count)] = word;
            count++;
            untold++;
            return count;
        }

        void dropFirst() {
            if (count > 0) {
                start = place(1);
                count--;
            }
        }

        int get(int i) {
            return i >= 0 && i < count ? ring[place(i)] : NONE;
        }

        int takeUntold() {
            int taken = untold;
            untold = 0;
            return taken;
        }

        private int place(int i) {
            return Math.floorMod(start + i, MOST_WORDS);
        }
    }
}
