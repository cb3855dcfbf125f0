/** Boundaries of the promise 12: what the terms say of a tick's parts (e) and (f), and of WAKING. */
public final class ProgramBoundaryTest extends BoundaryTests {

    public static void main(String[] args) {
        new ProgramBoundaryTest().runAll();
    }

    private static int stateAndStep(BeadleKernel k, int task) {
        return k.stateOf(task) * 100 + k.stepOf(task);
    }

    // ---- (e) programs

    @Says({"a PROGRAM of at most 16 STEPS, numbered from 0, which it goes through so many times",
        "STEPS but RUN take no time, and it goes on behind them, as long as it is RUNNING"})
    void promise12_goesThrough15StepsInOneTick() {
        BeadleKernel k = Scene.kernel(1);
        int task = k.addTask(0, 0, 5);
        for (int step = 0; step < 15; step++) {
            k.addStep(task, Scene.SIGNAL, step % 6);
        }
        k.addStep(task, Scene.RUN, 1);
        k.start(task);
        for (int round = 1; round <= 5; round++) {
            k.tick(1);
            same("event 0", k.number(0), 3 * round);
            same("event 5", k.number(5), 2 * round);
            same("rounds", k.roundsOf(task), round);
            same("step", k.stepOf(task), round < 5 ? 0 : 16);
        }
        same("done in the tick 4", k.told(task, 4), 4);
        same("never idle", k.idle(), 0);
    }

    @Says("STEPS but RUN take no time")
    void promise12_eachStepDoesOnlyItsOwn() {
        for (int code = Scene.SLEEP; code <= Scene.YIELD; code++) {
            for (int n = 1; n <= 5; n++) {
                BeadleKernel k = Scene.kernel(1);
                Scene.started(k, 0, code, n, Scene.RUN, 2);
                k.tick(1);
                for (int i = 0; i < 6; i++) {
                    String what = "of " + i + " behind the step " + code + " " + n + ": ";
                    same("holder " + what, k.holder(i), code == Scene.LOCK && i == n ? 0 : -1);
                    same("number " + what, k.number(i), code == Scene.SIGNAL && i == n ? 1 : 0);
                    same("awaiting " + what, k.awaiting(i), code == Scene.AWAIT && i == n ? 1 : 0);
                    same("blocked " + what, k.blocked(i), 0);
                }
                same("stand", k.standOf(0), code == Scene.YIELD ? 1 : 0);
                same("state", k.stateOf(0), new int[] {0, 3, 2, 2, 2, 5, 1}[code]);
            }
        }
    }

    private void runs(int n) {
        BeadleKernel k = Scene.kernel(1);
        Scene.started(k, 0, Scene.RUN, n, Scene.RUN, 1);
        if (n > 1) {
            k.tick(n - 1);
            same("one tick less than " + n, stateAndStep(k, 0), 200);
        }
        k.tick(1);
        same("just " + n, stateAndStep(k, 0), 201);
        k.tick(1);
        same("the next step", stateAndStep(k, 0), 602);
        same("ran", k.told(0, 0), n + 1);
    }

    @Says("if it has run n ticks for this STEP, it goes on behind it the next time")
    void promise12_runs1Tick() {
        runs(1);
    }

    @Says("if it has run n ticks for this STEP, it goes on behind it the next time")
    void promise12_runs20Ticks() {
        runs(20);
    }

    @Says("if it has run n ticks for this STEP, it goes on behind it the next time")
    void promise12_runsOnWhereItLostItsProcessor() {
        BeadleKernel k = Scene.kernel(1);
        Scene.started(k, 5, Scene.RUN, 4, Scene.SIGNAL, 0, Scene.RUN, 1);
        k.tick(3);
        Scene.started(k, 1, Scene.RUN, 5);
        k.tick(5);
        same("a part of it is run", stateAndStep(k, 0), 100);
        k.tick(1);
        same("the rest is one tick, and no step behind it", stateAndStep(k, 0) * 10 + k.number(0), 2010);
        k.tick(1);
        same("the next time", stateAndStep(k, 0) * 10 + k.number(0), 6031);
    }

    @Says("behind the last STEP the next ROUND begins at once (it is at the STEP 0 then)")
    void promise12_beginsTheNextRoundAtOnce() {
        for (int rounds = 1; rounds <= 5; rounds++) {
            BeadleKernel k = Scene.kernel(1);
            k.start(Scene.task(k, 0, 0, rounds, Scene.RUN, 3));
            for (int round = 1; round < rounds; round++) {
                k.tick(3);
                same("at the step 0", stateAndStep(k, 0) * 10 + k.roundsOf(0), 2000 + round);
            }
            k.tick(2);
            same("one tick less", stateAndStep(k, 0) * 10 + k.roundsOf(0), 2000 + rounds - 1);
            k.tick(1);
            same("the last", stateAndStep(k, 0) * 10 + k.roundsOf(0), 6010 + rounds);
            same("without a pause", k.idle(), 0);
        }
    }

    @Says("behind the last ROUND it is DONE, in this tick still")
    void promise12_isDoneInThisTickStill() {
        BeadleKernel k = Scene.kernel(1);
        Scene.started(k, 0, Scene.RUN, 2);
        k.tick(2);
        same("state", k.stateOf(0), Scene.DONE);
        same("the tick", k.told(0, 4), 1);
        same("on", k.on(0), -1);
        same("ran", k.ran(0, 1), 0);
        same("idle", k.idle(), 0);
    }

    @Says("and then UNLOCKS all LOCKS that it holds, by numbers.")
    void promise12_unlocksAllAsItIsDone() {
        BeadleKernel k = Scene.kernel(3);
        Scene.started(k, 7, Scene.LOCK, 5, Scene.LOCK, 3, Scene.LOCK, 0, Scene.RUN, 4);
        k.tick(1);
        Scene.started(k, 1, Scene.LOCK, 5, Scene.RUN, 9);
        k.tick(1);
        Scene.started(k, 2, Scene.LOCK, 0, Scene.RUN, 9);
        k.tick(1);
        same("holds all", k.holder(5) + k.holder(3) + k.holder(0), 0);
        k.tick(1);
        same("all are passed on, or free", k.holder(0) * 100 + k.holder(3) * 10 + k.holder(5), 191);
        same("by numbers", k.standOf(2) * 10 + k.standOf(1), 34);
        same("ready, as it was their turn to come", k.stateOf(1) * 10 + k.stateOf(2), 11);
    }

    @Says("A processor on which no tick is run in (e) is IDLE in this tick.")
    void promise12_isIdleWithoutARun() {
        int[][] firsts = {{Scene.SLEEP, 1}, {Scene.AWAIT, 0}, {Scene.YIELD, 0}};
        for (int[] first : firsts) {
            BeadleKernel k = Scene.kernel(1);
            Scene.started(k, 0, first[0], first[1], Scene.RUN, 1);
            k.tick(1);
            same("idle with the step " + first[0], k.idle(), 1);
            same("ran", k.ran(0, 1), -1);
            same("on", k.on(0), -1);
            same("a switch all the same", k.switches(), 1);
            same("ran no tick", k.told(0, 0) + k.used(0), 0);
        }
    }

    // ---- (e) locks

    @Says("LOCK: if nobody holds it, it holds it from now on")
    void promise12_locksWhatIsFree() {
        for (int lock = 0; lock < 6; lock++) {
            BeadleKernel k = Scene.kernel(1);
            Scene.started(k, 0, Scene.LOCK, lock, Scene.RUN, 2);
            k.tick(1);
            for (int other = 0; other < 6; other++) {
                same("holder of " + other, k.holder(other), other == lock ? 0 : -1);
            }
            same("it goes on", stateAndStep(k, 0), 201);
        }
    }

    @Says("if it holds it itself, nothing comes of it")
    void promise12_locksItsOwnWithNothing() {
        BeadleKernel k = Scene.kernel(1);
        Scene.started(k, 0, Scene.LOCK, 2, Scene.LOCK, 2, Scene.LOCK, 2, Scene.RUN, 1, Scene.UNLOCK, 2, Scene.RUN, 2);
        k.tick(1);
        same("it goes on", stateAndStep(k, 0) * 10 + k.holder(2), 2040);
        same("blocked", k.blocked(2), 0);
        k.tick(1);
        same("one unlock is enough", k.holder(2), -1);
    }

    @Says("otherwise it is BLOCKED there")
    void promise12_isBlockedAtAnothers() {
        BeadleKernel k = Scene.kernel(2);
        Scene.started(k, 0, Scene.LOCK, 5, Scene.RUN, 9);
        Scene.started(k, 0, Scene.LOCK, 4, Scene.LOCK, 5, Scene.RUN, 9);
        k.tick(1);
        same("blocked at its step", stateAndStep(k, 1), 401);
        same("there", k.blocked(5) * 10 + k.blocked(4), 20);
        same("it holds what it had", k.holder(4) * 10 + k.holder(5), 10);
        same("no processor", k.on(1), -1);
        same("idle", k.idle(), 1);
    }

    @Says("UNLOCK: if it holds it, it is free (otherwise nothing comes of it)")
    void promise12_unlocksItsOwn() {
        BeadleKernel k = Scene.kernel(1);
        Scene.started(k, 0, Scene.LOCK, 5, Scene.LOCK, 0, Scene.RUN, 1, Scene.UNLOCK, 5, Scene.RUN, 2);
        k.tick(2);
        same("free", k.holder(5), -1);
        same("the other is held", k.holder(0), 0);
        same("it goes on", stateAndStep(k, 0), 204);
    }

    @Says("UNLOCK: if it holds it, it is free (otherwise nothing comes of it)")
    void promise12_unlocksNothingOfOthers() {
        BeadleKernel k = Scene.kernel(3);
        Scene.started(k, 0, Scene.LOCK, 1, Scene.RUN, 9);
        Scene.started(k, 1, Scene.UNLOCK, 1, Scene.UNLOCK, 2, Scene.UNLOCK, 2, Scene.RUN, 9);
        Scene.started(k, 2, Scene.LOCK, 1, Scene.RUN, 9);
        k.tick(1);
        same("held", k.holder(1), 0);
        same("free", k.holder(2), -1);
        same("it goes on", stateAndStep(k, 1), 203);
        same("blocked", k.blocked(1), 4);
    }

    @Says("if any are BLOCKED there, the one with the least LENT KEY")
    void promise12_passesALockToTheLeastKey() {
        BeadleKernel k = Scene.kernel(3);
        Scene.started(k, 7, Scene.LOCK, 0, Scene.RUN, 4, Scene.UNLOCK, 0, Scene.RUN, 9);
        k.tick(1);
        for (int rank = 6; rank >= 4; rank--) {
            Scene.started(k, rank, Scene.LOCK, 0, Scene.RUN, 9);
            k.tick(1);
        }
        same("blocked", k.blocked(0), 14);
        k.tick(1);
        same("the last, with the least", k.holder(0), 3);
        same("ready behind that step", stateAndStep(k, 3), 101);
        same("the others are blocked still", k.blocked(0), 6);
        same("at their step", stateAndStep(k, 1), 400);
        same("the one that unlocked goes on", stateAndStep(k, 0), 203);
    }

    @Says("if any are BLOCKED there, the one with the least LENT KEY")
    void promise12_passesALockToTheLeastLentKey() {
        BeadleKernel k = Scene.kernel(3);
        Scene.started(k, 7, Scene.LOCK, 0, Scene.RUN, 4, Scene.UNLOCK, 0, Scene.RUN, 9);
        k.tick(1);
        Scene.started(k, 4, Scene.LOCK, 0, Scene.RUN, 9);
        k.tick(1);
        Scene.started(k, 6, Scene.LOCK, 1, Scene.LOCK, 0, Scene.RUN, 9);
        k.tick(1);
        Scene.started(k, 3, Scene.LOCK, 1, Scene.RUN, 9);
        k.tick(1);
        same("keys", k.lentKey(1) * 10 + k.lentKey(2), 43);
        k.tick(1);
        same("the one to which one is lent", k.holder(0), 2);
    }

    @Says("if any are BLOCKED there, the one with the least LENT KEY")
    void promise12_passesALockByTheKeysOfNow() {
        BeadleKernel k = Scene.kernel(3);
        Scene.started(k, 0, Scene.LOCK, 0, Scene.RUN, 4, Scene.UNLOCK, 0, Scene.RUN, 9);
        k.tick(1);
        Scene.started(k, 4, Scene.LOCK, 0, Scene.RUN, 9);
        k.tick(1);
        Scene.started(k, 6, Scene.LOCK, 1, Scene.LOCK, 0, Scene.RUN, 9);
        k.tick(2);
        k.setProcessors(3);
        // The next one gets the first processor, and is blocked by the 6 as the holder of 0 comes to its UNLOCK.
        k.setRank(0, 1);
        Scene.started(k, 0, Scene.LOCK, 1, Scene.RUN, 9);
        same("ahead of it", k.lentKey(1) * 10 + k.lentKey(2), 46);
        k.tick(1);
        same("blocked in the same tick", k.blocked(1), 8);
        same("its key is lent at once", k.holder(0), 2);
    }

    @Says("of several the one that was BLOCKED there first (also in one tick), holds it now")
    void promise12_passesALockToTheFirst() {
        BeadleKernel k = Scene.kernel(3);
        Scene.started(k, 7, Scene.LOCK, 0, Scene.RUN, 4, Scene.UNLOCK, 0, Scene.RUN, 9);
        for (int task = 1; task < 4; task++) {
            Scene.task(k, 3, 0, 1, Scene.LOCK, 0, Scene.RUN, 9);
        }
        k.tick(1);
        for (int task = 3; task >= 1; task--) {
            k.start(task);
            k.tick(1);
        }
        same("blocked", k.blocked(0), 14);
        k.tick(1);
        same("the first, with the greatest number", k.holder(0), 3);
    }

    @Says("of several the one that was BLOCKED there first (also in one tick), holds it now")
    void promise12_passesALockToTheFirstInOneTick() {
        BeadleKernel k = Scene.kernel(3);
        Scene.task(k, 3, 0, 1, Scene.LOCK, 0, Scene.RUN, 9);
        Scene.task(k, 3, 0, 1, Scene.LOCK, 0, Scene.RUN, 9);
        Scene.started(k, 0, Scene.LOCK, 0, Scene.RUN, 1, Scene.UNLOCK, 0, Scene.RUN, 9);
        k.start(1);
        k.start(0);
        k.tick(1);
        same("both in one tick, by processors", k.blocked(0), 3);
        k.tick(1);
        same("the one on the first of the processors", k.holder(0), 1);
    }

    @Says("UNLOCK: if it holds it, it is free")
    void promise12_unlocksWithoutAnyBlocked() {
        BeadleKernel k = Scene.kernel(2);
        Scene.started(k, 0, Scene.LOCK, 0, Scene.RUN, 1, Scene.UNLOCK, 0, Scene.RUN, 9);
        Scene.started(k, 1, Scene.RUN, 1, Scene.LOCK, 0, Scene.RUN, 9);
        k.tick(2);
        same("the next one holds it, in the same tick", k.holder(0), 1);
        same("it was not blocked", stateAndStep(k, 1) * 10 + k.told(1, 2), 2020);
    }

    // ---- (e) events

    @Says("SIGNAL: the one that came to AWAIT the EVENT first becomes READY behind that STEP")
    void promise12_signalsToTheFirst() {
        BeadleKernel k = Scene.kernel(3);
        for (int task = 0; task < 3; task++) {
            Scene.task(k, task, 0, 1, Scene.AWAIT, 0, Scene.RUN, 9);
        }
        for (int task = 2; task >= 0; task--) {
            k.start(task);
            k.tick(1);
        }
        same("awaiting", k.awaiting(0), 7);
        Scene.started(k, 7, Scene.SIGNAL, 0, Scene.RUN, 9);
        k.tick(1);
        same("the first, with the greatest key and number", k.awaiting(0), 3);
        same("ready behind that step", stateAndStep(k, 2), 101);
        same("the number stays", k.number(0), 0);
        same("the one that signals goes on", stateAndStep(k, 3), 201);
    }

    @Says("SIGNAL: the one that came to AWAIT the EVENT first becomes READY behind that STEP")
    void promise12_signalsToTheFirstInOneTick() {
        BeadleKernel k = Scene.kernel(3);
        Scene.started(k, 6, Scene.AWAIT, 0, Scene.RUN, 9);
        Scene.started(k, 5, Scene.AWAIT, 0, Scene.RUN, 9);
        Scene.started(k, 7, Scene.SIGNAL, 0, Scene.RUN, 9);
        k.tick(1);
        same("the one on the first processor", k.awaiting(0), 1);
    }

    @Says("if there is none, the number of the EVENT is 1 more (not above 99)")
    void promise12_signalsUpTo99() {
        BeadleKernel k = Scene.kernel(1);
        int task = k.addTask(0, 0, 5);
        for (int step = 0; step < 15; step++) {
            k.addStep(task, Scene.SIGNAL, 2);
        }
        k.addStep(task, Scene.RUN, 1);
        for (int number = 1; number <= 39; number++) {
            k.signal(2);
        }
        k.start(task);
        k.tick(3);
        same("39 and 45", k.number(2), 84);
        k.tick(1);
        same("and 15", k.number(2), 99);
        k.tick(1);
        same("not above", k.number(2), 99);
        same("it goes on", k.stateOf(task), Scene.DONE);
    }

    @Says("AWAIT: if its number is above 0, that is 1 less; otherwise it is AWAITING")
    void promise12_takesANumberAbove0() {
        BeadleKernel k = Scene.kernel(1);
        k.signal(5);
        k.signal(5);
        Scene.started(k, 0, Scene.AWAIT, 5, Scene.RUN, 1, Scene.AWAIT, 5, Scene.RUN, 1, Scene.AWAIT, 5, Scene.RUN, 1);
        k.tick(1);
        same("of 2", stateAndStep(k, 0) * 10 + k.number(5), 2021);
        k.tick(1);
        same("of 1", stateAndStep(k, 0) * 10 + k.number(5), 2040);
        k.tick(1);
        same("of 0", stateAndStep(k, 0) * 10 + k.number(5), 5040);
        same("awaiting", k.awaiting(5), 1);
        same("no processor", k.on(0), -1);
    }

    @Says("AWAIT: if its number is above 0, that is 1 less; otherwise it is AWAITING")
    void promise12_takesOf99() {
        BeadleKernel k = Scene.kernel(1);
        for (int i = 0; i < 100; i++) {
            k.signal(0);
        }
        Scene.started(k, 0, Scene.AWAIT, 0, Scene.RUN, 1);
        k.tick(1);
        same("98 are left", k.number(0), 98);
    }

    // ---- (e) yield and times

    @Says("YIELD: it becomes READY behind that STEP")
    void promise12_yields() {
        BeadleKernel k = Scene.kernel(1);
        k.setWay(1, 10, 0);
        Scene.started(k, 0, Scene.YIELD, 0, Scene.YIELD, 0, Scene.RUN, 1);
        k.tick(1);
        same("behind the first", stateAndStep(k, 0) * 10 + k.standOf(0), 1011);
        same("waited", k.told(0, 1), 1);
        k.tick(1);
        same("behind the second, alone", stateAndStep(k, 0) * 10 + k.standOf(0), 1022);
        k.tick(1);
        same("done", stateAndStep(k, 0) * 10 + k.standOf(0), 6032);
    }

    @Says("YIELD: it becomes READY behind that STEP")
    void promise12_yieldIsNoWaking() {
        BeadleKernel level = new BeadleKernel();
        level.setWay(1, 1, 0);
        Scene.started(level, 0, Scene.RUN, 2, Scene.YIELD, 0, Scene.RUN, 1);
        level.tick(3);
        same("its level stays", stateAndStep(level, 0) * 10 + level.levelOf(0), 1021);
        BeadleKernel time = Scene.kernel(2);
        time.setWay(2, 1, 0);
        Scene.started(time, 0, Scene.RUN, 1, Scene.YIELD, 0, Scene.RUN, 9);
        Scene.started(time, 7, Scene.RUN, 9);
        time.tick(2);
        same("its time stays", stateAndStep(time, 0) * 10000 + time.keyOf(0), 1020105);
        same("though the other's is greater", time.keyOf(1), 1680);
    }

    @Says("with the WAY 2 its TIME is 840 / (8 - RANK) more, cut towards 0")
    void promise12_timesOfRanks0To7() {
        int[] more = {105, 120, 140, 168, 210, 280, 420, 840};
        for (int rank = 0; rank <= 7; rank++) {
            BeadleKernel k = new BeadleKernel();
            k.setWay(2, 1, 0);
            Scene.started(k, rank, Scene.RUN, 20);
            k.tick(1);
            same("one tick", k.keyOf(0), more[rank]);
            k.tick(18);
            same("19 ticks", k.keyOf(0), 19 * more[rank]);
            k.tick(1);
            same("as it is done", k.keyOf(0), 20 * more[rank]);
            k.tick(1);
            same("no more then", k.keyOf(0), 20 * more[rank]);
        }
    }

    @Says("with the WAY 2 its TIME is 840 / (8 - RANK) more")
    void promise12_noTimesWithOtherWays() {
        for (int way = 0; way <= 1; way++) {
            BeadleKernel k = new BeadleKernel();
            k.setWay(way, 1, 0);
            Scene.started(k, 7, Scene.RUN, 20);
            k.tick(9);
            k.setWay(2, 1, 0);
            same("with the way " + way, k.keyOf(0), 0);
        }
    }

    @Says("and the tick counts as one for which it has had its processor")
    void promise12_countsTheTickOnItsProcessor() {
        BeadleKernel k = new BeadleKernel();
        k.setWay(0, 1, 0);
        Scene.started(k, 3, Scene.RUN, 1, Scene.RUN, 1, Scene.RUN, 1);
        Scene.started(k, 3, Scene.RUN, 3);
        k.tick(6);
        same("steps end no turn, ticks do", Scene.ran(k, 0, 6), "010101");
    }

    // ---- (f)

    @Says("(f) Each TASK that is READY has WAITED one tick more; each that is BLOCKED has been HELD UP one more.")
    void promise12_countsWaitsOfEachState() {
        BeadleKernel k = Scene.busy(0);
        int[] waited = new int[7];
        int[] heldUp = new int[7];
        for (int task = 0; task < 7; task++) {
            waited[task] = k.told(task, 1);
            heldUp[task] = k.told(task, 2);
        }
        k.tick(3);
        same("states", Scene.states(k), "2453610");
        for (int task = 0; task < 7; task++) {
            same("waited of " + task, k.told(task, 1) - waited[task], task == 5 ? 3 : 0);
            same("held up of " + task, k.told(task, 2) - heldUp[task], task == 1 ? 3 : 0);
        }
    }

    @Says("(f) Each TASK that is READY has WAITED one tick more; each that is BLOCKED has been HELD UP one more.")
    void promise12_countsTheTickOfTheChange() {
        BeadleKernel k = Scene.kernel(2);
        Scene.started(k, 0, Scene.LOCK, 0, Scene.RUN, 1, Scene.UNLOCK, 0, Scene.RUN, 9);
        Scene.started(k, 1, Scene.LOCK, 0, Scene.RUN, 9);
        k.tick(1);
        same("blocked in this tick", k.told(1, 1) * 10 + k.told(1, 2), 1);
        k.tick(1);
        same("ready in this tick", k.told(1, 1) * 10 + k.told(1, 2), 11);
        k.tick(1);
        same("running in this tick", k.told(1, 1) * 10 + k.told(1, 2), 11);
    }

    // ---- WAKING

    @Says("with the WAY 1 its LEVEL is 1 less, but not below 0")
    void promise12_wakesWithALevelLess() {
        BeadleKernel k = new BeadleKernel();
        k.setWay(1, 1, 0);
        Scene.started(k, 0, Scene.RUN, 8, Scene.AWAIT, 0, Scene.AWAIT, 0, Scene.AWAIT, 0, Scene.AWAIT, 0, Scene.RUN, 1);
        k.tick(9);
        int[] levels = {3, 2, 1, 0, 0};
        for (int woken = 0; woken < 4; woken++) {
            same("awaiting", stateAndStep(k, 0) * 10 + k.levelOf(0), 5010 + 10 * woken + levels[woken]);
            k.signal(0);
            same("ready", stateAndStep(k, 0) * 10 + k.levelOf(0), 1020 + 10 * woken + levels[woken + 1]);
            k.tick(1);
        }
        same("done", k.stateOf(0) * 10 + k.levelOf(0), 60);
    }

    @Says("WAKING (from sleep, a lock or an event), ahead of the STAND: with the WAY 1 its LEVEL is 1 less")
    void promise12_wakesFromSleepAndLocks() {
        BeadleKernel k = new BeadleKernel();
        k.setWay(1, 1, 0);
        Scene.started(k, 0, Scene.RUN, 8, Scene.SLEEP, 2, Scene.LOCK, 0, Scene.RUN, 1);
        k.tick(8);
        same("level", k.levelOf(0), 3);
        Scene.started(k, 0, Scene.LOCK, 0, Scene.RUN, 20);
        k.tick(1);
        same("the other has lock 0", k.holder(0), 1);
        k.setProcessors(2);
        k.tick(1);
        same("asleep", k.stateOf(0) * 10 + k.levelOf(0), 33);
        k.tick(1);
        same("asleep", k.stateOf(0) * 10 + k.levelOf(0), 33);
        k.tick(1);
        same("from sleep, and blocked", k.stateOf(0) * 10 + k.levelOf(0), 42);
        k.end(1);
        same("from a lock", k.stateOf(0) * 10 + k.levelOf(0), 11);
    }

    @Says("with the WAY 1 its LEVEL is 1 less")
    void promise12_wakesWithItsLevelWithOtherWays() {
        for (int way = 0; way <= 2; way += 2) {
            BeadleKernel k = new BeadleKernel();
            k.setWay(1, 1, 0);
            Scene.started(k, 0, Scene.RUN, 8, Scene.AWAIT, 0, Scene.RUN, 1);
            k.tick(9);
            k.setWay(way, 1, 0);
            k.signal(0);
            same("level with the way " + way, k.stateOf(0) * 10 + k.levelOf(0), 13);
        }
    }

    @Says("with the WAY 2 its TIME becomes the least TIME of all others that are READY or RUNNING, if there are any")
    void promise12_wakesWithItsTimeWithoutAny() {
        BeadleKernel k = Scene.kernel(1);
        k.setWay(2, 1, 0);
        Scene.started(k, 0, Scene.RUN, 1, Scene.AWAIT, 0, Scene.RUN, 1);
        k.tick(2);
        Scene.started(k, 7, Scene.RUN, 5, Scene.SLEEP, 40, Scene.RUN, 1);
        Scene.started(k, 7, Scene.RUN, 5);
        k.tick(12);
        same("asleep and done", Scene.states(k), "536");
        k.signal(0);
        same("its own", k.stateOf(0) * 10000 + k.keyOf(0), 10105);
    }

    @Says("with the WAY 2 its TIME becomes the least TIME of all others that are READY or RUNNING, if there are any")
    void promise12_wakesWithTheLeastTime() {
        BeadleKernel k = Scene.kernel(2);
        k.setWay(2, 1, 0);
        Scene.started(k, 0, Scene.AWAIT, 0, Scene.RUN, 1);
        k.tick(1);
        Scene.started(k, 7, Scene.RUN, 20);
        Scene.started(k, 6, Scene.RUN, 20);
        k.tick(1);
        same("running", k.keyOf(1) * 1000 + k.keyOf(2), 840420);
        BeadleKernel ready = Scene.kernel(2);
        ready.setWay(2, 1, 0);
        Scene.started(ready, 0, Scene.AWAIT, 0, Scene.RUN, 1);
        ready.tick(1);
        Scene.started(ready, 7, Scene.RUN, 20);
        Scene.started(ready, 6, Scene.RUN, 20);
        ready.tick(1);
        ready.setProcessors(1);
        k.signal(0);
        ready.signal(0);
        same("of running ones", k.stateOf(0) * 10000 + k.keyOf(0), 10420);
        same("of ready ones", ready.stateOf(0) * 10000 + ready.keyOf(0), 10420);
    }

    @Says("and its own is less")
    void promise12_wakesWithItsTimeIfItIsNotLess() {
        int[] due = {420, 420, 840};
        int[] ranks = {0, 6, 7};
        for (int i = 0; i < 3; i++) {
            BeadleKernel k = Scene.kernel(2);
            k.setWay(2, 1, 0);
            Scene.started(k, ranks[i], Scene.RUN, 1, Scene.AWAIT, 0, Scene.RUN, 1);
            Scene.started(k, 6, Scene.RUN, 20);
            k.tick(1);
            k.end(1);
            k.tick(1);
            same("awaiting", k.stateOf(0), Scene.AWAITING);
            Scene.started(k, 6, Scene.RUN, 20);
            k.tick(1);
            same("the other's", k.keyOf(2), 420);
            k.signal(0);
            same("the greater of both", k.keyOf(0), due[i]);
        }
    }
}
