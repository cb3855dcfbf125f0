/** Boundaries of the promise 12: how many ticks go by, and what the terms say of a tick's parts (a) to (d). */
public final class TickBoundaryTest extends BoundaryTests {

    public static void main(String[] args) {
        new TickBoundaryTest().runAll();
    }

    // ---- 12 tick

    @Says("Throws `IllegalArgumentException` if ticks is not 1 to 40")
    void promise12_refusesTicksBeside1To40() {
        for (int wrong : beside(1, 40)) {
            refused("tick(" + wrong + ")", ARGUMENT, k -> k.tick(wrong));
            refused("tick(" + wrong + ") without tasks", BeadleKernel::new, ARGUMENT, k -> k.tick(wrong));
        }
    }

    @Says("Returns the CLOCK then.")
    void promise12_takes1() {
        BeadleKernel k = new BeadleKernel();
        same("clock then", k.tick(1), 1);
        same("clock then", k.tick(1), 2);
        same("just two ticks", k.idle(), 2);
    }

    @Says("Returns the CLOCK then.")
    void promise12_takes40() {
        BeadleKernel k = new BeadleKernel();
        same("clock then", k.tick(40), 40);
        same("clock then", k.tick(40), 80);
        same("just 80 ticks", k.idle(), 80);
    }

    @Says("A TICK has the number that the CLOCK has.")
    void promise12_theFirstTickIs0() {
        BeadleKernel k = Scene.kernel(1);
        Scene.started(k, 0, Scene.RUN, 1);
        k.tick(1);
        same("ran first", k.told(0, 3), 0);
        same("done", k.told(0, 4), 0);
        Scene.started(k, 0, Scene.RUN, 1);
        k.tick(40);
        same("ran first", k.told(1, 3), 1);
    }

    // ---- (a)

    @Says({"what is counted for GROUPS is 0", "(a) If it is a multiple of the PERIOD"})
    void promise12_countsAreTakenBackForAllGroups() {
        BeadleKernel k = Scene.kernel(2);
        k.setPeriod(4);
        for (int group = 0; group < 4; group++) {
            k.start(Scene.task(k, 0, group, 1, Scene.RUN, 2));
        }
        k.tick(4);
        for (int group = 0; group < 4; group++) {
            same("behind the tick 3, of the group " + group, k.used(group), 2);
        }
        k.tick(1);
        for (int group = 0; group < 4; group++) {
            same("behind the tick 4, of the group " + group, k.used(group), 0);
        }
    }

    @Says("(a) If it is a multiple of the PERIOD")
    void promise12_countsAreTakenBackAheadOfQuotas() {
        BeadleKernel k = Scene.kernel(1);
        k.setPeriod(2);
        k.setQuota(0, 1);
        Scene.started(k, 0, Scene.RUN, 20);
        k.tick(8);
        same("each period's first tick", Scene.ran(k, 0, 8), "0-0-0-0-");
    }

    /** A task that waits with the level 2, one that is done with 1, one that is new, and one that runs. */
    private static BeadleKernel ofLevels(int way, int boost) {
        BeadleKernel k = new BeadleKernel();
        k.setWay(1, 1, 0);
        Scene.started(k, 0, Scene.RUN, 4, Scene.AWAIT, 0, Scene.RUN, 1);
        k.tick(5);
        Scene.started(k, 0, Scene.RUN, 2);
        k.tick(3);
        k.addTask(0, 0, 1);
        Scene.started(k, 0, Scene.RUN, 20);
        k.tick(5);
        k.setWay(way, 10, boost);
        return k;
    }

    private static String levels(BeadleKernel k) {
        StringBuilder text = new StringBuilder();
        for (int task = 0; task < k.tasks(); task++) {
            text.append(k.levelOf(task));
        }
        return text.toString();
    }

    @Says("With the WAY 1, if BOOST is not 0, and the tick is a multiple of it, all LEVELS are 0.")
    void promise12_boostsAllLevels() {
        BeadleKernel k = ofLevels(1, 7);
        same("states", Scene.states(k), "5602");
        same("levels", levels(k), "2102");
        k.tick(1);
        same("behind the tick 13", levels(k), "2102");
        k.tick(1);
        same("behind the tick 14", levels(k), "0000");
    }

    @Says("With the WAY 1, if BOOST is not 0, and the tick is a multiple of it, all LEVELS are 0.")
    void promise12_boostsNoneWith0() {
        BeadleKernel k = ofLevels(1, 0);
        k.tick(10);
        same("levels", levels(k), "2102");
    }

    @Says("With the WAY 1, if BOOST is not 0, and the tick is a multiple of it, all LEVELS are 0.")
    void promise12_boostsNoneWithOtherWays() {
        for (int way = 0; way <= 2; way += 2) {
            BeadleKernel k = ofLevels(way, 1);
            k.tick(10);
            same("levels with the way " + way, levels(k), "2102");
        }
    }

    @Says("With the WAY 1, if BOOST is not 0, and the tick is a multiple of it, all LEVELS are 0.")
    void promise12_boostsAheadOfWaking() {
        BeadleKernel k = new BeadleKernel();
        k.setWay(1, 1, 0);
        Scene.started(k, 0, Scene.RUN, 4, Scene.SLEEP, 4, Scene.RUN, 9);
        k.tick(8);
        same("asleep with its level", k.stateOf(0) * 10 + k.levelOf(0), 32);
        k.setWay(1, 1, 8);
        k.tick(1);
        same("0, and not less, behind its waking", k.stateOf(0) * 10 + k.levelOf(0), 20);
    }

    // ---- (b)

    private void sleeps(int n) {
        BeadleKernel k = Scene.kernel(1);
        Scene.started(k, 0, Scene.SLEEP, n, Scene.RUN, 2);
        k.tick(1);
        for (int tick = 1; tick < n; tick++) {
            k.tick(1);
        }
        same("behind the tick " + (n - 1), k.stateOf(0), Scene.ASLEEP);
        same("the stand that it had", k.standOf(0), 0);
        k.tick(1);
        same("behind the tick " + n, k.stateOf(0), Scene.RUNNING);
        same("a new stand", k.standOf(0), 1);
        same("it ran at once", k.told(0, 3), n);
    }

    @Says({"TASKS that are ASLEEP, by numbers: whose time is up becomes READY (see WAKING)",
        "SLEEP: it is ASLEEP till the tick that is n more"})
    void promise12_sleeps1() {
        sleeps(1);
    }

    @Says("SLEEP: it is ASLEEP till the tick that is n more")
    void promise12_sleeps40() {
        sleeps(40);
    }

    @Says("TASKS that are ASLEEP, by numbers")
    void promise12_wakesByNumbers() {
        BeadleKernel k = Scene.kernel(3);
        // The last falls asleep first, and all wake in the tick 3.
        for (int task = 0; task < 3; task++) {
            Scene.task(k, 0, 0, 1, Scene.SLEEP, 1 + task, Scene.RUN, 9);
        }
        for (int task = 2; task >= 0; task--) {
            k.start(task);
            k.tick(1);
        }
        same("all asleep", Scene.states(k), "333");
        k.tick(1);
        same("stands", k.standOf(0) * 100 + k.standOf(1) * 10 + k.standOf(2), 345);
        same("processors", k.on(0) * 100 + k.on(1) * 10 + k.on(2), 12);
    }

    // ---- (c)

    private static BeadleKernel twoByTurns(int quantum) {
        BeadleKernel k = new BeadleKernel();
        k.setWay(0, quantum, 0);
        Scene.started(k, 3, Scene.RUN, 20);
        Scene.started(k, 3, Scene.RUN, 20);
        return k;
    }

    @Says({"with the WAY 0, if it has had its processor for QUANTUM ticks, or more", "it becomes READY (with a new STAND)"})
    void promise12_turnEndsBehindJustQuantum() {
        for (int quantum = 1; quantum <= 10; quantum++) {
            BeadleKernel k = twoByTurns(quantum);
            k.tick(quantum);
            same("on the processor", k.on(0), 0);
            same("stand", k.standOf(0), 0);
            k.tick(1);
            same("the other", k.on(0), 1);
            same("the new stand", k.standOf(0), 2);
            same("ready", k.stateOf(0), Scene.READY);
            same("no level", k.levelOf(0), 0);
        }
    }

    @Says("with the WAY 0, if it has had its processor for QUANTUM ticks, or more")
    void promise12_turnEndsBehindMore() {
        BeadleKernel k = twoByTurns(10);
        k.tick(5);
        k.setWay(0, 6, 0);
        k.tick(1);
        same("5 of 6", Scene.ran(k, 0, 6), "000000");
        k.setWay(0, 2, 0);
        k.tick(1);
        same("6 of 2", Scene.ran(k, 0, 7), "0000001");
    }

    @Says("with the WAY 1 for QUANTUM * 2^LEVEL, or more")
    void promise12_turnsDoubleWithEachLevel() {
        BeadleKernel k = new BeadleKernel();
        k.setWay(1, 10, 0);
        k.start(Scene.task(k, 0, 0, 5, Scene.RUN, 20, Scene.RUN, 20, Scene.RUN, 20));
        int[] lengths = {10, 20, 40, 80, 80};
        for (int turn = 0; turn < lengths.length; turn++) {
            for (int tick = 0; tick < lengths[turn]; tick++) {
                k.tick(1);
                same("stand in the turn " + turn, k.standOf(0), turn);
                same("level in the turn " + turn, k.levelOf(0), Math.min(turn, 3));
            }
        }
        k.tick(1);
        same("the next stand", k.standOf(0), 5);
        same("not above 3", k.levelOf(0), 3);
        same("each is a switch", k.switches(), 6);
    }

    @Says("with the WAY 1 for QUANTUM * 2^LEVEL, or more")
    void promise12_levelIsOnly1MoreBehindMore() {
        BeadleKernel k = new BeadleKernel();
        k.setWay(0, 10, 0);
        Scene.started(k, 0, Scene.RUN, 20);
        k.tick(9);
        k.setWay(1, 1, 0);
        k.tick(1);
        same("level", k.levelOf(0), 1);
        same("stand", k.standOf(0), 1);
    }

    @Says("and with the WAY 1 its LEVEL is 1 more, but not above 3")
    void promise12_levelIsNotAbove3() {
        BeadleKernel k = new BeadleKernel();
        k.setWay(1, 1, 0);
        k.start(Scene.task(k, 0, 0, 5, Scene.RUN, 20));
        k.tick(40);
        k.tick(40);
        same("level", k.levelOf(0), 3);
        // The turns end at the ticks 1, 3, 7 and then each 8.
        same("stand", k.standOf(0), 12);
    }

    @Says("with the WAY 0, if it has had its processor for QUANTUM ticks, or more, with the WAY 1 for")
    void promise12_noTurnEndsWithTheWay2() {
        BeadleKernel k = new BeadleKernel();
        k.setWay(2, 1, 1);
        Scene.started(k, 0, Scene.RUN, 20);
        k.tick(19);
        same("stand", k.standOf(0), 0);
        same("switches", k.switches(), 1);
        same("level", k.levelOf(0), 0);
    }

    @Says("TASKS that are RUNNING, by processors")
    void promise12_turnsEndByProcessors() {
        BeadleKernel k = new BeadleKernel();
        k.setProcessors(3);
        k.setWay(0, 2, 0);
        Scene.started(k, 3, Scene.RUN, 20);
        Scene.started(k, 2, Scene.RUN, 20);
        Scene.started(k, 1, Scene.RUN, 20);
        k.tick(2);
        same("as they came", k.on(0) * 100 + k.on(1) * 10 + k.on(2), 210);
        k.tick(1);
        same("stands", k.standOf(2) * 100 + k.standOf(1) * 10 + k.standOf(0), 345);
    }

    // ---- (d)

    @Says("As long as there are processors, each one is TAKEN")
    void promise12_takesNoneWithoutTasks() {
        BeadleKernel k = Scene.kernel(3);
        k.tick(1);
        same("on", k.on(0) + k.on(1) + k.on(2), -3);
        same("switches", k.switches(), 0);
        k.addTask(0, 0, 1);
        k.tick(1);
        same("a new one is not taken", k.on(0), -1);
    }

    @Says("As long as there are processors, each one is TAKEN")
    void promise12_takesAsManyAsProcessors() {
        for (int processors = 1; processors <= 3; processors++) {
            for (int tasks = 1; tasks <= 5; tasks++) {
                BeadleKernel k = Scene.kernel(processors);
                for (int task = 0; task < tasks; task++) {
                    Scene.started(k, 3, Scene.RUN, 5);
                }
                k.tick(1);
                String states = Scene.states(k);
                int taken = Math.min(processors, tasks);
                same("taken", states, "222".substring(0, taken) + "11111".substring(0, tasks - taken));
                same("switches", k.switches(), taken);
                same("idle", k.idle(), processors - taken);
            }
        }
    }

    @Says("of several those that are RUNNING, of these the smallest STAND")
    void promise12_takesTheSmallestStand() {
        BeadleKernel k = Scene.kernel(1);
        for (int task = 0; task < 16; task++) {
            Scene.task(k, 3, 0, 1, Scene.RUN, 1);
        }
        for (int i = 0; i < 16; i++) {
            k.start(i * 5 % 16);
        }
        k.tick(16);
        same("by stands", Scene.ran(k, 0, 16), "05af49e38d27c16b");
    }

    @Says("of several those that are RUNNING, of these the smallest STAND")
    void promise12_takesRunningOnesFirst() {
        BeadleKernel k = Scene.kernel(1);
        Scene.started(k, 3, Scene.RUN, 9);
        Scene.started(k, 2, Scene.RUN, 9);
        k.tick(1);
        same("running, with the greater stand", k.stateOf(1) * 10 + k.standOf(1), 21);
        k.setRank(1, 3);
        k.tick(1);
        same("it runs on", Scene.ran(k, 0, 2), "11");
        k.setRank(0, 2);
        k.tick(1);
        same("but a lesser key goes ahead of it", Scene.ran(k, 0, 3), "110");
    }

    @Says("of several those that are RUNNING, of these the smallest STAND")
    void promise12_takesTheSmallestStandOfRunningOnes() {
        BeadleKernel k = Scene.kernel(2);
        Scene.task(k, 3, 0, 1, Scene.RUN, 9);
        Scene.task(k, 3, 0, 1, Scene.RUN, 9);
        k.start(1);
        k.start(0);
        k.tick(1);
        Scene.started(k, 1, Scene.RUN, 9);
        k.tick(1);
        same("the one with the greater stand makes room", Scene.states(k), "122");
        same("its stand", k.standOf(0), 1);
        same("its place", k.on(1), 2);
    }

    @Says("All TASKS that are READY or RUNNING come one by one: the least LENT KEY (as they are behind (c)) first")
    void promise12_takesTheLeastLentKey() {
        BeadleKernel k = Scene.kernel(1);
        Scene.started(k, 7, Scene.LOCK, 0, Scene.RUN, 3);
        k.tick(1);
        Scene.started(k, 2, Scene.LOCK, 0, Scene.RUN, 1);
        k.tick(1);
        Scene.started(k, 3, Scene.RUN, 2);
        k.tick(5);
        // The 7 has the key 2 of the one that is blocked by it, till it is done.
        same("who ran", Scene.ran(k, 0, 7), "0-00122");
        BeadleKernel own = Scene.kernel(1);
        for (int rank = 7; rank >= 0; rank--) {
            Scene.started(own, rank, Scene.RUN, 1);
        }
        own.tick(8);
        same("by keys", Scene.ran(own, 0, 8), "76543210");
    }

    @Says("(as they are behind (c))")
    void promise12_takesByKeysBehindTurns() {
        BeadleKernel k = new BeadleKernel();
        k.setWay(1, 1, 0);
        Scene.started(k, 0, Scene.RUN, 9);
        Scene.started(k, 0, Scene.RUN, 9);
        k.tick(10);
        // The first ends its turn at the level 0 in the tick 1, and is behind the second with its 1.
        same("who ran", Scene.ran(k, 0, 10), "0100110000");
    }

    @Says("but one whose GROUP has a QUOTA that is used up")
    void promise12_takesNoneOfAGroupThatIsUsedUp() {
        for (int quota = 1; quota <= 10; quota++) {
            BeadleKernel k = Scene.kernel(1);
            k.setQuota(2, quota);
            k.start(Scene.task(k, 0, 2, 1, Scene.RUN, 20));
            k.start(Scene.task(k, 7, 1, 1, Scene.RUN, 20));
            k.tick(10);
            same("used", k.used(2) * 100 + k.used(1), quota * 100 + 10 - quota);
            same("just behind its quota", Scene.ran(k, 0, 10), "0000000000".substring(0, quota)
                    + "1111111111".substring(quota));
            k.tick(1);
            same("the next period", k.on(0), 0);
        }
    }

    @Says("what is TAKEN in this tick counted as run")
    void promise12_countsWhatIsTakenForQuotas() {
        for (int quota = 1; quota <= 3; quota++) {
            BeadleKernel k = Scene.kernel(3);
            k.setQuota(0, quota);
            for (int task = 0; task < 4; task++) {
                Scene.started(k, 0, Scene.RUN, 9);
            }
            k.tick(1);
            same("taken", Scene.states(k), "222".substring(0, quota) + "1111".substring(quota));
            same("used", k.used(0), quota);
        }
    }

    @Says("what is TAKEN in this tick counted as run")
    void promise12_countsOneThatIsTakenButDoesNotRun() {
        BeadleKernel k = Scene.kernel(2);
        k.setQuota(0, 1);
        Scene.started(k, 0, Scene.AWAIT, 0, Scene.RUN, 2);
        Scene.started(k, 0, Scene.RUN, 2);
        k.tick(1);
        same("the second is not taken", Scene.states(k), "51");
        same("used", k.used(0), 0);
        k.tick(1);
        same("it is in the next tick", Scene.states(k), "52");
    }

    @Says("but one whose GROUP has a QUOTA that is used up")
    void promise12_passesOverToOthers() {
        BeadleKernel k = Scene.kernel(2);
        k.setQuota(0, 1);
        Scene.started(k, 0, Scene.RUN, 9);
        Scene.started(k, 1, Scene.RUN, 9);
        k.start(Scene.task(k, 7, 1, 1, Scene.RUN, 9));
        k.tick(1);
        same("the next of another group", Scene.states(k), "212");
        k.tick(1);
        same("the one that was running is not taken", Scene.states(k), "112");
        same("on", k.on(0) * 10 + k.on(1), -8);
    }

    @Says("Those that were RUNNING and are not TAKEN become READY (with the STAND that they have).")
    void promise12_losesItsProcessorWithItsStand() {
        BeadleKernel k = Scene.kernel(3);
        for (int task = 0; task < 3; task++) {
            Scene.started(k, 5, Scene.RUN, 9);
        }
        k.tick(1);
        for (int task = 3; task < 6; task++) {
            Scene.started(k, 4, Scene.RUN, 9);
        }
        k.tick(1);
        same("all lose theirs", Scene.states(k), "111222");
        same("stands", k.standOf(0) * 100 + k.standOf(1) * 10 + k.standOf(2), 12);
        same("the others, as they come", k.on(0) * 100 + k.on(1) * 10 + k.on(2), 345);
        same("no stand was given", Scene.started(k, 7, Scene.RUN, 1) * 10 + k.standOf(6), 66);
    }

    @Says("Those TAKEN that were RUNNING keep their processors; the others, as they come, get the free ones, by numbers")
    void promise12_keepsItsProcessor() {
        BeadleKernel k = Scene.kernel(3);
        Scene.started(k, 5, Scene.RUN, 1);
        Scene.started(k, 5, Scene.RUN, 1);
        Scene.started(k, 5, Scene.RUN, 9);
        k.tick(1);
        Scene.started(k, 6, Scene.RUN, 9);
        Scene.started(k, 4, Scene.RUN, 9);
        k.tick(1);
        same("on", k.on(0) * 100 + k.on(1) * 10 + k.on(2), 432);
        same("switches", k.switches(), 5);
    }

    @Says("each of that is a SWITCH (also of one that became READY in (c))")
    void promise12_switchesWithItself() {
        BeadleKernel k = new BeadleKernel();
        k.setWay(0, 1, 0);
        Scene.started(k, 0, Scene.RUN, 20);
        k.tick(10);
        same("one in each tick", k.switches(), 10);
        k.setWay(0, 10, 0);
        k.tick(9);
        same("none without a turn that ends", k.switches(), 10);
    }

    @Says("each of that is a SWITCH (also of one that became READY in (c))")
    void promise12_getsAFreeOneBehindItsTurn() {
        BeadleKernel k = new BeadleKernel();
        k.setProcessors(2);
        k.setWay(0, 2, 0);
        Scene.started(k, 3, Scene.RUN, 1);
        Scene.started(k, 4, Scene.RUN, 9);
        k.tick(2);
        same("at first", k.on(0) * 10 + k.on(1), -9);
        k.tick(1);
        same("the first free one", k.on(0) * 10 + k.on(1), 9);
        same("switches", k.switches(), 3);
    }

    @Says("and for it the ticks for which it has had its processor begin with 0")
    void promise12_ticksOnAProcessorBeginWith0() {
        BeadleKernel k = twoByTurns(3);
        k.tick(2);
        Scene.started(k, 0, Scene.RUN, 1);
        k.tick(5);
        same("three ticks anew", Scene.ran(k, 0, 7), "0020001");
    }
}
