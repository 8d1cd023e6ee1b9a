/** Each promise by hand: ordinary inputs, the edges that the document names, and wrong inputs. */
public final class PromiseTest {
    private static final int NONE = InputRoom.NONE;
    private static final int[] NO_NUMBERS = {-1, Integer.MIN_VALUE, Integer.MAX_VALUE};

    private static int wrong = 0;
    private static String promise = "";

    private static void due(String call, long got, long want) {
        if (got != want) {
            wrong++;
            System.out.println(promise + ": " + call + " answered " + got + ", due is " + want);
        }
    }

    private static void due(String call, boolean got, boolean want) {
        due(call, got ? 1 : 0, want ? 1 : 0);
    }

    /** Process p with a priority and the first acts of its plan, asleep. */
    private static void makeWith(InputRoom x, int p, int priority, int... acts) {
        due("make(" + p + ", " + priority + ")", x.make(p, priority), true);
        for (int i = 0; i < acts.length; i++) {
            due("plan(" + p + ", " + i + ", " + acts[i] + ")", x.plan(p, i, acts[i]), 0);
        }
    }

    private static void wakeAll(InputRoom x, int... ps) {
        for (int p : ps) {
            due("wake(" + p + ")", x.wake(p), true);
        }
    }

    private static void dueRow(InputRoom x, int row, int... ps) {
        for (int i = 0; i < ps.length; i++) {
            due("at(" + row + ", " + i + ")", x.at(row, i), ps[i]);
            due("row(" + ps[i] + ")", x.row(ps[i]), row);
        }
        due("at(" + row + ", " + ps.length + ")", x.at(row, ps.length), NONE);
    }

    private static void dueWords(InputRoom x, int... ws) {
        for (int i = 0; i < ws.length; i++) {
            due("wordAt(" + i + ")", x.wordAt(i), ws[i]);
        }
        due("wordAt(" + ws.length + ")", x.wordAt(ws.length), NONE);
    }

    private static void newObject() {
        promise = "1 a new object";
        InputRoom x = new InputRoom();
        due("active()", x.active(), NONE);
        due("present()", x.present(), NONE);
        due("clock()", x.clock(), 0);
        due("codes()", x.codes(), 0);
        due("input()", x.input(), NONE);
        due("tick()", x.tick(), NONE);
        for (int p = 0; p < 32; p++) {
            due("done(" + p + ")", x.done(p), NONE);
            due("row(" + p + ")", x.row(p), NONE);
        }
        for (int row = 0; row < 33; row++) {
            due("at(" + row + ", 0)", x.at(row, 0), NONE);
        }
        for (int s = 0; s < 16; s++) {
            due("extra(" + s + ")", x.extra(s), 0);
        }
        dueWords(x);
        due("run(1000)", x.run(1000), 0);
        due("clock()", x.clock(), 0);
    }

    private static void objectsAreApart() {
        promise = "1 two objects";
        InputRoom x = new InputRoom();
        InputRoom y = new InputRoom();
        makeWith(x, 0, 1, 32);
        wakeAll(x, 0);
        x.word(5);
        x.listen(3);
        x.alarm(4, 9);
        x.run(1);
        due("y done(0)", y.done(0), NONE);
        due("y extra(0)", y.extra(0), 0);
        due("y wordAt(0)", y.wordAt(0), NONE);
        due("y input()", y.input(), NONE);
        due("y tick()", y.tick(), NONE);
        due("y codes()", y.codes(), 0);
    }

    private static void make() {
        promise = "2 make";
        InputRoom x = new InputRoom();
        for (int no : NO_NUMBERS) {
            due("make(" + no + ", 1)", x.make(no, 1), false);
            due("make(5, " + no + ")", x.make(5, no), false);
        }
        due("make(32, 1)", x.make(32, 1), false);
        due("make(5, 0)", x.make(5, 0), false);
        due("make(5, 9)", x.make(5, 9), false);
        due("row(5)", x.row(5), NONE);
        for (int p = 0; p < 32; p++) {
            due("make(" + p + ")", x.make(p, p % 8 + 1), true);
            due("make(" + p + ") again", x.make(p, 8 - p % 8), false);
            due("row(" + p + ")", x.row(p), 0);
            due("done(" + p + ")", x.done(p), 0);
            for (int i = 0; i < 8; i++) {
                due("plan(" + p + ", " + i + ", 0)", x.plan(p, i, 0), 0);
            }
        }
        due("present()", x.present(), NONE);
        due("run(1)", x.run(1), 0);
        // A refused make leaves the priority as it was: 7 waits behind the eights.
        wakeAll(x, 7, 15, 6);
        dueRow(x, 8, 15);
        dueRow(x, 7, 6);
    }

    private static void plan() {
        promise = "3 plan";
        InputRoom x = new InputRoom();
        due("plan(0, 0, 1)", x.plan(0, 0, 1), NONE);
        makeWith(x, 0, 1);
        makeWith(x, 31, 1);
        for (int no : new int[] {-1, 8, Integer.MIN_VALUE, Integer.MAX_VALUE}) {
            due("plan(0, " + no + ", 1)", x.plan(0, no, 1), NONE);
        }
        for (int no : new int[] {-1, 128, Integer.MIN_VALUE, Integer.MAX_VALUE}) {
            due("plan(0, 0, " + no + ")", x.plan(0, 0, no), NONE);
        }
        for (int no : new int[] {-1, 1, 30, 32, Integer.MIN_VALUE, Integer.MAX_VALUE}) {
            due("plan(" + no + ", 0, 1)", x.plan(no, 0, 1), NONE);
        }
        for (int i = 0; i < 8; i++) {
            due("plan(0, " + i + ", 127)", x.plan(0, i, 127), 0);
            due("plan(31, " + i + ", 0)", x.plan(31, i, 0), 0);
        }
        for (int i = 0; i < 8; i++) {
            due("plan(0, " + i + ", i)", x.plan(0, i, i), 127);
        }
        for (int i = 0; i < 8; i++) {
            due("plan(0, " + i + ", 0)", x.plan(0, i, 0), i);
        }
    }

    private static void planOfTheActiveOne() {
        promise = "3 plan of the active one";
        InputRoom x = new InputRoom();
        makeWith(x, 2, 4);
        wakeAll(x, 2);
        x.run(1);
        due("plan(2, 1, 33)", x.plan(2, 1, 33), 0);
        x.run(1);
        due("extra(1)", x.extra(1), 1);
    }

    private static void wake() {
        promise = "4 wake";
        InputRoom x = new InputRoom();
        for (int no : new int[] {-1, 0, 32, Integer.MIN_VALUE, Integer.MAX_VALUE}) {
            due("wake(" + no + ")", x.wake(no), false);
        }
        makeWith(x, 0, 4);
        makeWith(x, 1, 4);
        makeWith(x, 2, 3);
        makeWith(x, 3, 5);
        makeWith(x, 4, 8);
        wakeAll(x, 0);
        due("present()", x.present(), 0);
        due("row(0)", x.row(0), 0);
        due("wake(0), the present one", x.wake(0), false);
        wakeAll(x, 1, 2);
        due("present()", x.present(), 0);
        dueRow(x, 4, 1);
        dueRow(x, 3, 2);
        due("wake(1), in a row", x.wake(1), false);
        wakeAll(x, 3);
        due("present()", x.present(), 3);
        dueRow(x, 4, 1, 0);
        due("active()", x.active(), NONE);
        x.run(1);
        due("active()", x.active(), 3);
        due("wake(3), active", x.wake(3), false);
        wakeAll(x, 4);
        due("present()", x.present(), 4);
        due("active()", x.active(), 3);
        dueRow(x, 5, 3);
        due("wake(3), active and in a row", x.wake(3), false);
        due("wake(4), the present one", x.wake(4), false);
    }

    private static void suspend() {
        promise = "5 suspend";
        InputRoom x = new InputRoom();
        due("suspend()", x.suspend(), NONE);
        makeWith(x, 0, 2);
        makeWith(x, 1, 7);
        makeWith(x, 2, 2);
        makeWith(x, 3, 7);
        wakeAll(x, 0, 1, 2, 3);
        dueRow(x, 2, 0, 2);
        dueRow(x, 7, 3);
        x.run(1);
        due("active()", x.active(), 1);
        due("suspend()", x.suspend(), 1);
        due("present()", x.present(), 3);
        due("active()", x.active(), 1);
        due("row(1)", x.row(1), 0);
        dueRow(x, 7);
        due("wake(1), asleep but active", x.wake(1), false);
        due("suspend()", x.suspend(), 3);
        due("present()", x.present(), 0);
        dueRow(x, 2, 2);
        due("wake(3)", x.wake(3), true);
        due("present()", x.present(), 3);
        dueRow(x, 2, 2, 0);
        due("run(1)", x.run(1), 1);
        due("done(1)", x.done(1), 2);
        due("active()", x.active(), 3);
        due("suspend()", x.suspend(), 3);
        due("suspend()", x.suspend(), 2);
        due("suspend()", x.suspend(), 0);
        due("suspend()", x.suspend(), NONE);
        due("present()", x.present(), NONE);
        due("active()", x.active(), 3);
        due("run(5)", x.run(5), 1);
        due("active()", x.active(), NONE);
    }

    private static void changeBackToTheActiveOne() {
        promise = "5 suspend, back to the active one";
        InputRoom x = new InputRoom();
        makeWith(x, 0, 2);
        makeWith(x, 1, 7);
        wakeAll(x, 0);
        x.run(1);
        wakeAll(x, 1);
        dueRow(x, 2, 0);
        due("suspend()", x.suspend(), 1);
        due("present()", x.present(), 0);
        due("row(0)", x.row(0), 0);
        due("run(3)", x.run(3), 3);
        due("active()", x.active(), 0);
        due("done(0)", x.done(0), 4);
    }

    private static void signal() {
        promise = "6 signal";
        InputRoom x = new InputRoom();
        for (int no : new int[] {-1, 16, Integer.MIN_VALUE, Integer.MAX_VALUE}) {
            due("signal(" + no + ")", x.signal(no), false);
        }
        due("signal(0)", x.signal(0), true);
        due("signal(15)", x.signal(15), true);
        due("signal(15)", x.signal(15), true);
        due("extra(0)", x.extra(0), 1);
        due("extra(15)", x.extra(15), 2);
        due("extra(1)", x.extra(1), 0);
        makeWith(x, 0, 3, 17);
        makeWith(x, 1, 5, 17);
        makeWith(x, 2, 4, 17);
        wakeAll(x, 0, 1, 2);
        due("run(9)", x.run(9), 3);
        dueRow(x, 17, 1, 2, 0);
        due("signal(1)", x.signal(1), true);
        due("signal(1)", x.signal(1), true);
        due("present()", x.present(), 1);
        due("active()", x.active(), NONE);
        dueRow(x, 4, 2);
        dueRow(x, 17, 0);
        due("extra(1)", x.extra(1), 0);
        due("signal(1)", x.signal(1), true);
        due("signal(1)", x.signal(1), true);
        due("extra(1)", x.extra(1), 1);
        dueRow(x, 3, 0);
    }

    private static void signalWakesOneThatIsHigher() {
        promise = "6 signal, one that is higher";
        InputRoom x = new InputRoom();
        makeWith(x, 0, 6, 16);
        makeWith(x, 1, 2);
        wakeAll(x, 0);
        due("run(2)", x.run(2), 1);
        wakeAll(x, 1);
        x.run(1);
        due("signal(0)", x.signal(0), true);
        due("present()", x.present(), 0);
        due("active()", x.active(), 1);
        dueRow(x, 2, 1);
        due("run(1)", x.run(1), 1);
        due("done(1)", x.done(1), 2);
        due("active()", x.active(), 0);
    }

    private static void listen() {
        promise = "7 listen";
        InputRoom x = new InputRoom();
        for (int no : new int[] {-2, 16, Integer.MIN_VALUE, Integer.MAX_VALUE}) {
            due("listen(" + no + ")", x.listen(no), false);
        }
        due("listen(15)", x.listen(15), true);
        due("listen(16)", x.listen(16), false);
        due("input()", x.input(), 15);
        due("listen(0)", x.listen(0), true);
        due("input()", x.input(), 0);
        due("word(1)", x.word(1), 1);
        due("extra(0), before the run", x.extra(0), 0);
        x.run(1);
        due("extra(0)", x.extra(0), 1);
        due("extra(15)", x.extra(15), 0);
        x.run(1);
        due("extra(0), told once", x.extra(0), 1);
        due("listen(NONE)", x.listen(NONE), true);
        due("input()", x.input(), NONE);
        due("word(2)", x.word(2), 2);
        x.run(1);
        due("listen(3)", x.listen(3), true);
        x.run(1);
        due("extra(3), nobody was told of it", x.extra(3), 0);
    }

    private static void listenAfterTheWord() {
        promise = "7 listen after the word";
        InputRoom x = new InputRoom();
        x.listen(4);
        x.word(1);
        x.word(2);
        x.listen(5);
        x.run(1);
        due("extra(4)", x.extra(4), 0);
        due("extra(5), input when BEHIND is done", x.extra(5), 2);
    }

    private static void alarm() {
        promise = "8 alarm";
        InputRoom x = new InputRoom();
        for (int no : new int[] {-2, 16, Integer.MIN_VALUE, Integer.MAX_VALUE}) {
            due("alarm(" + no + ", 5)", x.alarm(no, 5), false);
        }
        for (int no : new int[] {-1, 1000001, Integer.MIN_VALUE, Integer.MAX_VALUE}) {
            due("alarm(0, " + no + ")", x.alarm(0, no), false);
        }
        due("tick()", x.tick(), NONE);
        due("alarm(0, 0)", x.alarm(0, 0), true);
        due("tick()", x.tick(), 0);
        due("alarm(15, 1000000)", x.alarm(15, 1000000), true);
        due("tick()", x.tick(), 1000000);
        due("alarm(16, 7)", x.alarm(16, 7), false);
        due("alarm(3, -1)", x.alarm(3, -1), false);
        due("tick()", x.tick(), 1000000);
        due("alarm(NONE, 1000001)", x.alarm(NONE, 1000001), true);
        due("tick()", x.tick(), NONE);
        due("run(1)", x.run(1), 0);
        due("clock()", x.clock(), 0);
        due("alarm(15, 1000000)", x.alarm(15, 1000000), true);
        due("run(1)", x.run(1), 0);
        due("clock()", x.clock(), 1000000);
        due("tick()", x.tick(), NONE);
        due("extra(15)", x.extra(15), 1);
        due("extra(0)", x.extra(0), 0);
        due("alarm(2, 5), of the past", x.alarm(2, 5), true);
        due("run(1)", x.run(1), 0);
        due("extra(2)", x.extra(2), 1);
        due("clock()", x.clock(), 1000000);
    }

    private static void word() {
        promise = "9 word";
        InputRoom x = new InputRoom();
        for (int no : new int[] {-1, 65536, Integer.MIN_VALUE, Integer.MAX_VALUE}) {
            due("word(" + no + ")", x.word(no), NONE);
        }
        dueWords(x);
        for (int i = 0; i < 64; i++) {
            due("word, number " + i, x.word(i == 0 ? 65535 : i - 1), i + 1);
        }
        due("word(7), there are 64", x.word(7), NONE);
        due("wordAt(0)", x.wordAt(0), 65535);
        due("wordAt(63)", x.wordAt(63), 62);
        due("wordAt(64)", x.wordAt(64), NONE);
        makeWith(x, 0, 1, 49, 49);
        x.listen(2);
        wakeAll(x, 0);
        x.run(2);
        due("extra(2), the refused ones do not count", x.extra(2), 64);
        due("wordAt(0)", x.wordAt(0), 1);
        due("word(100)", x.word(100), 63);
        due("word(101)", x.word(101), 64);
        due("word(102)", x.word(102), NONE);
        due("wordAt(61)", x.wordAt(61), 62);
        due("wordAt(62)", x.wordAt(62), 100);
        due("wordAt(63)", x.wordAt(63), 101);
        x.run(1);
        due("extra(2)", x.extra(2), 66);
    }

    private static void run() {
        promise = "10 run";
        InputRoom x = new InputRoom();
        makeWith(x, 0, 1);
        wakeAll(x, 0);
        x.alarm(3, 5);
        x.word(1);
        x.listen(4);
        for (int no : new int[] {-1, 0, 1001, Integer.MIN_VALUE, Integer.MAX_VALUE}) {
            due("run(" + no + ")", x.run(no), NONE);
        }
        due("active(), after a refused run", x.active(), NONE);
        due("extra(4), after a refused run", x.extra(4), 0);
        due("run(1)", x.run(1), 1);
        due("active()", x.active(), 0);
        due("clock()", x.clock(), 0);
        due("extra(4)", x.extra(4), 1);
        due("run(1000)", x.run(1000), 1000);
        due("codes()", x.codes(), 1001);
        due("done(0)", x.done(0), 1001);
    }

    private static void runUntilNobodyWorks() {
        promise = "10 run, nobody works then";
        InputRoom x = new InputRoom();
        makeWith(x, 0, 1, 0, 0, 0, 0, 0, 0, 0, 16);
        wakeAll(x, 0);
        due("run(7)", x.run(7), 7);
        due("run(7)", x.run(7), 1);
        due("run(7)", x.run(7), 0);
        dueRow(x, 16, 0);
        x.alarm(0, 2);
        due("run(7), the alarm wakes it", x.run(7), 7);
        due("clock()", x.clock(), 2);
    }

    private static void alarmTwiceWhileNobodyWorks() {
        promise = "10 run, BEHIND with an alarm";
        InputRoom x = new InputRoom();
        makeWith(x, 0, 3, 64, 16, 65, 17, 33, 17);
        wakeAll(x, 0);
        due("run(2)", x.run(2), 2);
        due("clock()", x.clock(), 3);
        due("active()", x.active(), 0);
        due("run(2)", x.run(2), 2);
        due("clock()", x.clock(), 6);
        due("run(4)", x.run(4), 4);
        due("clock()", x.clock(), 6);
        due("extra(1)", x.extra(1), 0);
    }

    private static void wordsGoBeforeTheAlarm() {
        promise = "10 run, the order of what is posted";
        InputRoom x = new InputRoom();
        makeWith(x, 0, 4, 16);
        makeWith(x, 1, 4, 17);
        wakeAll(x, 0, 1);
        due("run(3)", x.run(3), 2);
        x.alarm(1, 0);
        x.listen(0);
        x.word(9);
        due("run(1)", x.run(1), 1);
        due("active(), woken by the word", x.active(), 0);
        dueRow(x, 4, 1);
    }

    private static void changeComesBehindTheSignals() {
        promise = "10 run, the change comes last";
        InputRoom x = new InputRoom();
        makeWith(x, 0, 6, 16, 16);
        makeWith(x, 1, 2);
        wakeAll(x, 1, 0);
        x.listen(0);
        due("run(1)", x.run(1), 1);
        due("active()", x.active(), 1);
        x.word(1);
        x.word(2);
        due("run(1)", x.run(1), 1);
        due("active()", x.active(), 0);
        due("extra(0)", x.extra(0), 1);
        dueRow(x, 2, 1);
        due("run(1)", x.run(1), 1);
        due("active()", x.active(), 0);
        due("extra(0)", x.extra(0), 0);
    }

    private static void actsAtTheirEdges() {
        promise = "10 run, acts";
        for (int act = 0; act < 128; act++) {
            InputRoom x = new InputRoom();
            makeWith(x, 0, 5, act);
            x.listen(7);
            x.alarm(6, 50);
            due("word(11)", x.word(11), 1);
            wakeAll(x, 0);
            // Nobody is active before, so the word is told before the act.
            due("run(1) of act " + act, x.run(1), 1);
            boolean waits = act >= 16 && act <= 31;
            for (int s = 0; s < 16; s++) {
                int told = s == 7 ? 1 : 0;
                int alarmed = s == 6 && waits && act != 23 ? 1 : 0;
                int signalled = act == 32 + s ? 1 : 0;
                int taken = act == 23 && s == 7 ? 1 : 0;
                int woke = act == 22 && s == 6 ? 1 : 0;
                due("extra(" + s + ") of act " + act, x.extra(s), told + alarmed + signalled - taken - woke);
            }
            boolean away = waits && act != 22 && act != 23;
            due("row(0) of act " + act, x.row(0), away ? act : 0);
            due("active() of act " + act, x.active(), away ? NONE : 0);
            due("clock() of act " + act, x.clock(), waits && act != 23 ? 50 : 0);
            boolean ended = waits && act != 23;
            boolean set = act >= 64 && act <= 79;
            due("tick() of act " + act, x.tick(), ended ? NONE : set ? 3 : 50);
            boolean listens = act >= 80 && act <= 95;
            due("input() of act " + act, x.input(), act == 50 ? NONE : listens ? act - 80 : 7);
            due("wordAt(0) of act " + act, x.wordAt(0), act == 49 ? NONE : 11);
        }
    }

    private static void alarmActNamesItsSemaphore() {
        promise = "10 run, acts 64 to 79";
        for (int s = 0; s < 16; s++) {
            InputRoom x = new InputRoom();
            makeWith(x, 0, 5, 64 + s, 16 + s);
            wakeAll(x, 0);
            due("run(3)", x.run(3), 3);
            due("clock()", x.clock(), 3);
            due("row(0)", x.row(0), 0);
        }
    }

    private static void planGoesRound() {
        promise = "10 run, eight acts";
        InputRoom x = new InputRoom();
        makeWith(x, 0, 1, 32, 33, 34, 35, 36, 37, 38, 39);
        wakeAll(x, 0);
        x.run(19);
        for (int s = 0; s < 9; s++) {
            due("extra(" + s + ")", x.extra(s), s < 3 ? 3 : s < 8 ? 2 : 0);
        }
    }

    private static void giveWay() {
        promise = "10 run, act 48";
        InputRoom x = new InputRoom();
        makeWith(x, 0, 4, 48, 48, 48);
        makeWith(x, 1, 4);
        makeWith(x, 2, 4);
        makeWith(x, 3, 3);
        wakeAll(x, 0, 3);
        x.run(1);
        due("active(), nobody of its priority is ready", x.active(), 0);
        dueRow(x, 4);
        wakeAll(x, 1, 2);
        x.run(1);
        due("active()", x.active(), 1);
        dueRow(x, 4, 2, 0);
        dueRow(x, 3, 3);
        x.suspend();
        x.suspend();
        x.suspend();
        due("present()", x.present(), 3);
    }

    private static void actsWithoutAPresentOne() {
        promise = "10 run, acts when there is no present one";
        int[] acts = {20, 48};
        for (int act : acts) {
            InputRoom x = new InputRoom();
            makeWith(x, 0, 4, 0, act);
            wakeAll(x, 0);
            x.run(1);
            x.signal(4);
            due("suspend()", x.suspend(), 0);
            due("run(2)", x.run(2), 1);
            due("extra(4)", x.extra(4), 1);
            due("row(0)", x.row(0), 0);
            due("active()", x.active(), NONE);
            due("done(0)", x.done(0), 2);
        }
    }

    private static void thePresentOneWaitsNotTheActiveOne() {
        promise = "10 run, the present one waits";
        InputRoom x = new InputRoom();
        makeWith(x, 0, 2, 0, 18);
        makeWith(x, 1, 6);
        wakeAll(x, 0);
        x.run(1);
        wakeAll(x, 1);
        due("run(1)", x.run(1), 1);
        dueRow(x, 18, 1);
        due("active()", x.active(), 0);
        due("row(0)", x.row(0), 0);
        due("done(0)", x.done(0), 2);
        due("done(1)", x.done(1), 0);
    }

    private static void thePresentOneGivesWayNotTheActiveOne() {
        promise = "10 run, the present one gives way";
        InputRoom x = new InputRoom();
        makeWith(x, 0, 2, 0, 48);
        makeWith(x, 1, 6);
        makeWith(x, 2, 6);
        wakeAll(x, 0);
        x.run(1);
        wakeAll(x, 1, 2);
        due("run(1)", x.run(1), 1);
        due("active()", x.active(), 2);
        dueRow(x, 6, 1);
        dueRow(x, 2, 0);
    }

    private static void aDroppedWordIsToldAllTheSame() {
        promise = "10 run, a word dropped before BEHIND";
        InputRoom x = new InputRoom();
        makeWith(x, 0, 2, 0, 49, 49);
        wakeAll(x, 0);
        x.listen(5);
        x.run(1);
        x.word(77);
        x.run(1);
        dueWords(x);
        due("extra(5)", x.extra(5), 1);
        x.run(1);
        due("extra(5)", x.extra(5), 1);
    }

    private static void inputIsLookedAtBehindTheAct() {
        promise = "10 run, input changes in the act";
        InputRoom x = new InputRoom();
        makeWith(x, 0, 2, 0, 50, 89);
        wakeAll(x, 0);
        x.listen(5);
        x.run(1);
        x.word(1);
        x.run(1);
        due("extra(5)", x.extra(5), 0);
        due("input()", x.input(), NONE);
        dueWords(x, 1);
        x.word(2);
        x.run(1);
        due("extra(9)", x.extra(9), 1);
        due("input()", x.input(), 9);
    }

    private static void active() {
        promise = "11 active";
        InputRoom x = new InputRoom();
        makeWith(x, 31, 2, 0, 16);
        makeWith(x, 0, 1);
        wakeAll(x, 31, 0);
        due("active()", x.active(), NONE);
        x.run(1);
        due("active()", x.active(), 31);
        x.run(1);
        due("active()", x.active(), 0);
        x.suspend();
        due("active()", x.active(), 0);
        x.run(1);
        due("active()", x.active(), NONE);
    }

    private static void present() {
        promise = "12 present";
        InputRoom x = new InputRoom();
        makeWith(x, 31, 2);
        makeWith(x, 0, 3);
        wakeAll(x, 31);
        due("present()", x.present(), 31);
        x.run(1);
        due("present(), the active one", x.present(), 31);
        wakeAll(x, 0);
        due("present(), the wanted one", x.present(), 0);
        x.suspend();
        x.suspend();
        due("present(), none is wanted", x.present(), NONE);
        due("active()", x.active(), 31);
        wakeAll(x, 0);
        due("present()", x.present(), 0);
        due("row(31)", x.row(31), 0);
    }

    private static void clock() {
        promise = "13 clock";
        InputRoom x = new InputRoom();
        makeWith(x, 0, 2);
        makeWith(x, 1, 2);
        wakeAll(x, 0, 1);
        x.run(40);
        x.suspend();
        x.run(23);
        due("codes()", x.codes(), 63);
        due("clock()", x.clock(), 0);
        x.run(1);
        due("clock(), the 64th of all", x.clock(), 1);
        x.run(63);
        due("clock()", x.clock(), 1);
        x.run(1);
        due("clock()", x.clock(), 2);
    }

    private static void clockAndAlarmInOneCode() {
        promise = "13 clock, the alarm is set before it goes on";
        InputRoom x = new InputRoom();
        makeWith(x, 0, 2);
        x.plan(0, 7, 66);
        wakeAll(x, 0);
        x.run(64);
        due("clock()", x.clock(), 1);
        due("tick()", x.tick(), 3);
        x.plan(0, 7, 0);
        x.run(127);
        due("clock()", x.clock(), 2);
        due("tick()", x.tick(), 3);
        due("extra(2)", x.extra(2), 0);
        x.run(1);
        due("clock()", x.clock(), 3);
        due("tick()", x.tick(), NONE);
        due("extra(2)", x.extra(2), 1);
    }

    private static void codes() {
        promise = "14 codes";
        InputRoom x = new InputRoom();
        makeWith(x, 0, 2, 0, 16);
        makeWith(x, 1, 1);
        wakeAll(x, 0, 1);
        due("codes()", x.codes(), 0L);
        x.run(5);
        due("codes()", x.codes(), 5L);
        due("done(0)", x.done(0), 2);
        due("done(1)", x.done(1), 3);
        for (int i = 0; i < 400; i++) {
            x.run(1000);
        }
        due("codes()", x.codes(), 400005L);
        due("clock()", x.clock(), 6250);
    }

    private static void done() {
        promise = "15 done";
        InputRoom x = new InputRoom();
        makeWith(x, 0, 2);
        makeWith(x, 31, 2);
        for (int no : new int[] {-1, 1, 30, 32, Integer.MIN_VALUE, Integer.MAX_VALUE}) {
            due("done(" + no + ")", x.done(no), NONE);
        }
        wakeAll(x, 31);
        x.run(17);
        due("done(31)", x.done(31), 17);
        due("done(0)", x.done(0), 0);
    }

    private static void row() {
        promise = "16 row";
        InputRoom x = new InputRoom();
        for (int p = 0; p < 16; p++) {
            makeWith(x, p, 8, 16 + p);
            wakeAll(x, p);
        }
        for (int no : new int[] {-1, 16, 31, 32, Integer.MIN_VALUE, Integer.MAX_VALUE}) {
            due("row(" + no + ")", x.row(no), NONE);
        }
        x.run(20);
        for (int p = 0; p < 16; p++) {
            due("row(" + p + ")", x.row(p), 16 + p);
        }
        makeWith(x, 16, 8);
        wakeAll(x, 16);
        for (int priority = 1; priority <= 8; priority++) {
            makeWith(x, 16 + priority, priority);
            due("row, asleep", x.row(16 + priority), 0);
            wakeAll(x, 16 + priority);
            due("row, ready", x.row(16 + priority), priority);
        }
        due("row(16), wanted", x.row(16), 0);
        x.run(1);
        due("row(16), active", x.row(16), 0);
    }

    private static void at() {
        promise = "17 at";
        InputRoom x = new InputRoom();
        makeWith(x, 0, 8);
        wakeAll(x, 0);
        for (int p = 1; p < 32; p++) {
            makeWith(x, p, 1 + p % 2 * 7);
            wakeAll(x, p);
        }
        for (int i = 0; i < 16; i++) {
            due("at(8, " + i + ")", x.at(8, i), 2 * i + 1);
            due("at(1, " + i + ")", x.at(1, i), i < 15 ? 2 * i + 2 : NONE);
        }
        for (int no : new int[] {-1, 16, 31, 32, 33, Integer.MIN_VALUE, Integer.MAX_VALUE}) {
            due("at(8, " + no + ")", x.at(8, no), NONE);
        }
        for (int no : new int[] {-1, 0, 9, 15, 32, Integer.MIN_VALUE, Integer.MAX_VALUE}) {
            due("at(" + no + ", 0)", x.at(no, 0), NONE);
        }
    }

    private static void atOfSemaphores() {
        promise = "17 at, semaphores";
        InputRoom x = new InputRoom();
        for (int p = 0; p < 32; p++) {
            makeWith(x, p, 4, p < 30 ? 31 : 16);
            wakeAll(x, p);
        }
        due("run(99)", x.run(99), 32);
        for (int i = 0; i < 30; i++) {
            due("at(31, " + i + ")", x.at(31, i), i);
        }
        due("at(31, 30)", x.at(31, 30), NONE);
        dueRow(x, 16, 30, 31);
        x.signal(15);
        due("at(31, 0)", x.at(31, 0), 1);
        due("at(31, 28)", x.at(31, 28), 29);
        due("at(31, 29)", x.at(31, 29), NONE);
        due("at(31, -1)", x.at(31, -1), NONE);
    }

    private static void extra() {
        promise = "18 extra";
        InputRoom x = new InputRoom();
        for (int no : new int[] {-1, 16, Integer.MIN_VALUE, Integer.MAX_VALUE}) {
            due("extra(" + no + ")", x.extra(no), NONE);
        }
        for (int s = 0; s < 16; s++) {
            for (int k = 0; k < s; k++) {
                x.signal(s);
            }
        }
        for (int s = 0; s < 16; s++) {
            due("extra(" + s + ")", x.extra(s), s);
        }
        makeWith(x, 0, 1, 18, 18, 18);
        wakeAll(x, 0);
        due("run(2)", x.run(2), 2);
        due("extra(2)", x.extra(2), 0);
        due("run(2)", x.run(2), 1);
        due("extra(2)", x.extra(2), 0);
        dueRow(x, 18, 0);
    }

    private static void wordAt() {
        promise = "19 wordAt";
        InputRoom x = new InputRoom();
        makeWith(x, 0, 1, 49, 49, 49, 49, 49, 49, 49, 49);
        wakeAll(x, 0);
        due("run(1), no word", x.run(1), 1);
        for (int w = 0; w < 80; w++) {
            due("word(" + w + ")", x.word(w), w % 2 + 1);
            if (w % 2 == 1) {
                dueWords(x, w - 1, w);
                x.run(1);
                dueWords(x, w);
                x.run(1);
                dueWords(x);
            }
        }
        for (int no : NO_NUMBERS) {
            due("wordAt(" + no + ")", x.wordAt(no), NONE);
        }
        x.word(0);
        x.word(65535);
        dueWords(x, 0, 65535);
        for (int no : NO_NUMBERS) {
            due("wordAt(" + no + ")", x.wordAt(no), NONE);
        }
    }

    private static void input() {
        promise = "20 input";
        InputRoom x = new InputRoom();
        makeWith(x, 0, 1, 80, 95, 50);
        wakeAll(x, 0);
        x.run(1);
        due("input()", x.input(), 0);
        x.run(1);
        due("input()", x.input(), 15);
        x.run(1);
        due("input()", x.input(), NONE);
    }

    private static void tick() {
        promise = "21 tick";
        InputRoom x = new InputRoom();
        makeWith(x, 0, 1, 64, 0, 79);
        wakeAll(x, 0);
        x.run(1);
        due("tick()", x.tick(), 3);
        x.alarm(1, 1);
        due("tick()", x.tick(), 1);
        x.run(2);
        due("tick()", x.tick(), 3);
        x.plan(0, 0, 0);
        x.plan(0, 2, 0);
        x.run(188);
        due("clock()", x.clock(), 2);
        due("tick()", x.tick(), 3);
        x.run(1);
        due("clock()", x.clock(), 3);
        due("tick()", x.tick(), NONE);
        due("extra(15)", x.extra(15), 1);
        due("extra(0), replaced", x.extra(0), 0);
        due("extra(1), replaced", x.extra(1), 0);
        due("alarm(1, 9)", x.alarm(1, 9), true);
        due("alarm(NONE, 9)", x.alarm(NONE, 9), true);
        due("tick()", x.tick(), NONE);
    }

    public static void main(String[] args) {
        newObject();
        objectsAreApart();
        make();
        plan();
        planOfTheActiveOne();
        wake();
        suspend();
        changeBackToTheActiveOne();
        signal();
        signalWakesOneThatIsHigher();
        listen();
        listenAfterTheWord();
        alarm();
        word();
        run();
        runUntilNobodyWorks();
        alarmTwiceWhileNobodyWorks();
        wordsGoBeforeTheAlarm();
        changeComesBehindTheSignals();
        actsAtTheirEdges();
        alarmActNamesItsSemaphore();
        planGoesRound();
        giveWay();
        actsWithoutAPresentOne();
        thePresentOneWaitsNotTheActiveOne();
        thePresentOneGivesWayNotTheActiveOne();
        aDroppedWordIsToldAllTheSame();
        inputIsLookedAtBehindTheAct();
        active();
        present();
        clock();
        clockAndAlarmInOneCode();
        codes();
        done();
        row();
        at();
        atOfSemaphores();
        extra();
        wordAt();
        input();
        tick();
        System.out.println(wrong == 0 ? "all promises hold" : wrong + " answers are not as due");
        if (wrong != 0) {
            System.exit(1);
        }
    }
}
