/** What a tick does, part by part, (a) to (f), and waking, lent keys and stuck tasks. */
public final class TicksTest {

    private final Checks checks = new Checks("TicksTest");

    public static void main(String[] args) {
        TicksTest test = new TicksTest();
        test.periodsAndQuotas();
        test.quotaCountsWhatIsTaken();
        test.quotaOfOneThatDoesNotRun();
        test.quotaSetBelowWhatWasRun();
        test.boost();
        test.boostOfAll();
        test.sleep();
        test.sleepersWakeByNumbers();
        test.turnsByRank();
        test.turnsByProcessors();
        test.turnsByLevel();
        test.noTurnsByTime();
        test.orderOfTaking();
        test.processorsAreKept();
        test.switchesInOrder();
        test.lending();
        test.lendingOnAndOn();
        test.lockOfItsOwn();
        test.unlockOfAnother();
        test.unlockToTheLeastKey();
        test.unlockToTheFirst();
        test.unlockToTheLentKey();
        test.doneUnlocksByNumbers();
        test.events();
        test.eventNumbers();
        test.yield();
        test.times();
        test.wakingOfLevels();
        test.wakingOfTimes();
        test.wakingOfTimesInATick();
        test.stuck();
        test.lendingInARing();
        test.endInARing();
        test.rounds();
        test.checks.close();
    }

    private void periodsAndQuotas() {
        BeadleKernel k = Scene.kernel(1);
        k.setPeriod(4);
        k.setQuota(0, 2);
        Scene.started(k, 0, Scene.RUN, 20);
        k.tick(3);
        checks.same("4a used up", k.used(0), 2);
        checks.same("4d ready, with its stand", k.stateOf(0) * 10 + k.standOf(0), 10);
        checks.same("4d no processor", k.on(0), -1);
        k.tick(6);
        checks.same("4a each period", Scene.ran(k, 0, 9), "00--00--0");
        checks.same("4d switches", k.switches(), 3);
        checks.same("4f waited", k.told(0, 1), 4);
        k.setQuota(0, 0);
        k.tick(5);
        checks.same("3 no quota", Scene.ran(k, 0, 5), "00000");
    }

    private void quotaCountsWhatIsTaken() {
        BeadleKernel k = Scene.kernel(3);
        k.setQuota(0, 1);
        Scene.started(k, 0, Scene.RUN, 20);
        Scene.started(k, 0, Scene.RUN, 20);
        k.start(Scene.task(k, 5, 1, 1, Scene.RUN, 20));
        k.tick(1);
        checks.same("4d one of the group", Scene.states(k), "212");
        checks.same("4d the others get the next ones", k.on(1), 2);
        checks.same("4d free", k.on(2), -1);
        k.tick(1);
        checks.same("4d none of the group", Scene.states(k), "112");
        checks.same("4d it keeps its processor", k.on(1), 2);
        k.setQuota(0, 3);
        k.tick(1);
        checks.same("4d two more", Scene.states(k), "222");
        checks.same("4d by numbers", k.on(0) * 10 + k.on(2), 1);
    }

    private void quotaOfOneThatDoesNotRun() {
        BeadleKernel k = Scene.kernel(2);
        k.setQuota(0, 1);
        Scene.started(k, 0, Scene.YIELD, 0, Scene.RUN, 2);
        Scene.started(k, 0, Scene.RUN, 2);
        k.tick(1);
        checks.same("4d taken is counted, though it does not run", Scene.states(k), "11");
        checks.same("4d nothing was run", k.used(0), 0);
        k.tick(1);
        checks.same("4d the next is the smaller stand", Scene.states(k), "12");
        checks.same("4d run", k.used(0), 1);
    }

    private void quotaSetBelowWhatWasRun() {
        BeadleKernel k = Scene.kernel(1);
        Scene.started(k, 0, Scene.RUN, 20);
        k.tick(5);
        k.setQuota(0, 3);
        k.tick(6);
        checks.same("3 used up at once, till the tick 10", Scene.ran(k, 0, 11), "00000-----0");
        checks.same("3 other groups are free", k.used(0), 1);
    }

    private void boost() {
        BeadleKernel k = new BeadleKernel();
        k.setWay(1, 1, 5);
        Scene.started(k, 0, Scene.RUN, 20);
        k.tick(5);
        checks.same("4a level", k.levelOf(0), 2);
        k.tick(1);
        checks.same("4a boosted to 0 in (a), a turn ended in (c)", k.levelOf(0), 1);
        k.setWay(0, 10, 5);
        k.tick(6);
        checks.same("4a no boost with another way", k.levelOf(0), 1);
        k.setWay(1, 10, 0);
        k.tick(8);
        checks.same("4a no boost with 0", k.levelOf(0), 1);
    }

    private void boostOfAll() {
        BeadleKernel k = new BeadleKernel();
        k.setWay(1, 1, 0);
        Scene.started(k, 0, Scene.RUN, 2, Scene.SLEEP, 40, Scene.RUN, 1);
        k.tick(2);
        Scene.started(k, 0, Scene.RUN, 4);
        // Tick 2: the first still has a turn, and falls asleep. The second: 1 tick, a turn ends, 2 ticks, a turn ends.
        k.tick(5);
        checks.same("4 asleep and done", Scene.states(k), "36");
        checks.same("4a levels", k.levelOf(0) * 10 + k.levelOf(1), 12);
        k.setWay(1, 1, 7);
        k.tick(1);
        checks.same("4a all levels", k.levelOf(0) * 10 + k.levelOf(1), 0);
    }

    private void sleep() {
        BeadleKernel k = Scene.kernel(1);
        Scene.started(k, 0, Scene.RUN, 1, Scene.SLEEP, 3, Scene.RUN, 1, Scene.SLEEP, 1, Scene.RUN, 1);
        k.tick(2);
        checks.same("4e asleep behind the step", k.stateOf(0) * 10 + k.stepOf(0), 32);
        checks.same("4e no processor", k.on(0), -1);
        k.tick(6);
        checks.same("4b wakes in the tick that is n more", Scene.ran(k, 0, 8), "0---0-0-");
        checks.same("4b a stand for each waking", k.standOf(0), 2);
        checks.same("4 done", k.told(0, 4), 6);
        checks.same("4f asleep does not wait", k.told(0, 1), 0);
    }

    private void sleepersWakeByNumbers() {
        BeadleKernel k = Scene.kernel(1);
        Scene.started(k, 5, Scene.SLEEP, 2, Scene.RUN, 1);
        Scene.started(k, 1, Scene.SLEEP, 3, Scene.RUN, 1);
        k.tick(3);
        checks.same("4b both asleep", Scene.states(k), "33");
        k.tick(1);
        checks.same("4b by numbers", k.standOf(0) * 10 + k.standOf(1), 23);
        checks.same("4d by ranks", Scene.states(k), "16");
    }

    private void turnsByRank() {
        BeadleKernel k = new BeadleKernel();
        k.setWay(0, 2, 0);
        Scene.started(k, 3, Scene.RUN, 20);
        Scene.started(k, 3, Scene.RUN, 20);
        k.tick(7);
        checks.same("4c turns", Scene.ran(k, 0, 7), "0011001");
        checks.same("4c new stands", k.standOf(0) * 10 + k.standOf(1), 43);
        checks.same("4c no level", k.levelOf(0), 0);
        Scene.started(k, 2, Scene.RUN, 5);
        k.tick(5);
        checks.same("4c a turn of the best is followed by its own", Scene.ran(k, 0, 5), "22222");
        checks.same("4d each is a switch", k.switches(), 4 + 3);
        checks.same("4d the stand of one that lost its processor stays", k.standOf(1), 3);
    }

    private void turnsByProcessors() {
        BeadleKernel k = new BeadleKernel();
        k.setProcessors(2);
        k.setWay(0, 2, 0);
        Scene.started(k, 4, Scene.RUN, 20);
        Scene.started(k, 1, Scene.RUN, 20);
        k.tick(2);
        checks.same("4d as they come", k.on(0) * 10 + k.on(1), 10);
        k.tick(1);
        checks.same("4c by processors", k.standOf(1) * 10 + k.standOf(0), 23);
    }

    private void turnsByLevel() {
        BeadleKernel k = new BeadleKernel();
        k.setWay(1, 2, 0);
        Scene.started(k, 7, Scene.RUN, 20);
        Scene.started(k, 0, Scene.RUN, 20);
        // 2 ticks each at level 0; 4 each at level 1; 8 at level 2.
        k.tick(20);
        checks.same("4c turns of 2, 4 and 8", Scene.ran(k, 0, 20), "00110000111100000000");
        checks.same("4c levels", k.levelOf(0) * 10 + k.levelOf(1), 22);
        k.tick(1);
        checks.same("4c the next level", k.levelOf(0) * 10 + k.levelOf(1), 32);
        Scene.started(k, 7, Scene.RUN, 1);
        k.tick(1);
        checks.same("4d level 0 first", k.ran(0, 1), 2);
    }

    private void noTurnsByTime() {
        BeadleKernel k = new BeadleKernel();
        k.setWay(2, 1, 1);
        Scene.started(k, 0, Scene.RUN, 20);
        k.tick(9);
        checks.same("4c no turn ends", k.switches(), 1);
        checks.same("4c no new stand", k.standOf(0), 0);
        checks.same("4c no level", k.levelOf(0), 0);
    }

    private void orderOfTaking() {
        BeadleKernel k = Scene.kernel(1);
        Scene.started(k, 3, Scene.RUN, 20);
        Scene.started(k, 3, Scene.RUN, 20);
        Scene.started(k, 2, Scene.RUN, 2);
        k.tick(1);
        checks.same("4d the least key", k.ran(0, 1), 2);
        k.setRank(0, 1);
        k.tick(1);
        checks.same("4d a smaller key than that of one that is running", k.ran(0, 1), 0);
        k.setRank(1, 1);
        k.setRank(2, 1);
        k.tick(1);
        checks.same("4d running first", k.ran(0, 1), 0);
        k.setProcessors(1);
        k.end(0);
        k.tick(1);
        checks.same("4d the smallest stand", k.ran(0, 1), 1);
        BeadleKernel stands = Scene.kernel(1);
        Scene.task(stands, 3, 0, 1, Scene.RUN, 2);
        Scene.started(stands, 3, Scene.RUN, 2);
        stands.start(0);
        stands.tick(4);
        checks.same("4d the stand, not the number", Scene.ran(stands, 0, 4), "1100");
        BeadleKernel first = Scene.kernel(1);
        Scene.started(first, 3, Scene.RUN, 1);
        Scene.started(first, 2, Scene.RUN, 2);
        first.tick(1);
        first.setRank(1, 3);
        first.tick(1);
        checks.same("4d running comes ahead of a smaller stand", first.ran(0, 1), 1);
    }

    private void processorsAreKept() {
        BeadleKernel k = Scene.kernel(3);
        Scene.started(k, 5, Scene.RUN, 2);
        Scene.started(k, 5, Scene.RUN, 9);
        Scene.started(k, 5, Scene.RUN, 1);
        k.tick(1);
        int late = Scene.started(k, 0, Scene.RUN, 9);
        k.tick(1);
        checks.same("4d the free one", k.on(2), late);
        checks.same("4d kept", k.on(1), 1);
        k.tick(1);
        checks.same("4d nobody moves", Scene.ran(k, 0, 3) + Scene.ran(k, 1, 3) + Scene.ran(k, 2, 3), "00-111233");
        checks.same("4d switches", k.switches(), 4);
    }

    private void switchesInOrder() {
        BeadleKernel k = Scene.kernel(3);
        Scene.started(k, 5, Scene.RUN, 9);
        k.tick(1);
        Scene.started(k, 2, Scene.RUN, 9);
        Scene.started(k, 1, Scene.RUN, 9);
        k.tick(1);
        checks.same("4d as they come, by numbers of the free", k.on(0) * 100 + k.on(1) * 10 + k.on(2), 21);
        Scene.started(k, 0, Scene.RUN, 9);
        k.tick(1);
        checks.same("4d in the place of the last", k.on(0) * 100 + k.on(1) * 10 + k.on(2), 321);
        checks.same("4d switches", k.switches(), 4);
    }

    private void lending() {
        BeadleKernel k = Scene.kernel(1);
        Scene.started(k, 6, Scene.LOCK, 0, Scene.RUN, 3, Scene.UNLOCK, 0, Scene.RUN, 2);
        k.tick(1);
        Scene.started(k, 1, Scene.LOCK, 0, Scene.RUN, 1);
        Scene.started(k, 3, Scene.RUN, 2);
        // 1: the 1 is blocked; 2, 3: the 0 has its key; 4: the 0 unlocks and, still on its processor, runs; then 1, 2.
        k.tick(9);
        checks.same("2 a lent key goes ahead of 3", Scene.ran(k, 0, 10), "0-0001220-");
        checks.same("4f held up", k.told(1, 2), 3);
        checks.same("4f waited behind the unlock", k.told(1, 1), 1);
    }

    private void lendingOnAndOn() {
        BeadleKernel k = Scene.kernel(3);
        Scene.started(k, 7, Scene.LOCK, 0, Scene.RUN, 20);
        k.tick(1);
        Scene.started(k, 6, Scene.LOCK, 1, Scene.LOCK, 0, Scene.RUN, 20);
        k.tick(1);
        Scene.started(k, 5, Scene.LOCK, 2, Scene.LOCK, 1, Scene.RUN, 20);
        k.tick(1);
        Scene.started(k, 2, Scene.LOCK, 2, Scene.RUN, 20);
        Scene.started(k, 1, Scene.LOCK, 4, Scene.RUN, 20);
        checks.same("2 the least so far", k.lentKey(0), 5);
        k.tick(1);
        for (int task = 0; task < 4; task++) {
            checks.same("2 lent to " + task, k.lentKey(task), 2);
            checks.same("2 key of " + task, k.keyOf(task), new int[] {7, 6, 5, 2}[task]);
        }
        checks.same("2 nobody's", k.lentKey(4), 1);
        checks.same("33 a chain is not stuck", k.stuck(), 0);
    }

    private void lockOfItsOwn() {
        BeadleKernel k = Scene.kernel(1);
        Scene.started(k, 6, Scene.LOCK, 0, Scene.LOCK, 0, Scene.RUN, 1, Scene.UNLOCK, 0, Scene.RUN, 2);
        k.tick(1);
        checks.same("4e it goes on", k.ran(0, 1), 0);
        checks.same("4e holder", k.holder(0), 0);
        checks.same("4e nobody is blocked", k.blocked(0), 0);
        k.tick(1);
        checks.same("4e free at one unlock", k.holder(0), -1);
    }

    private void unlockOfAnother() {
        BeadleKernel k = Scene.kernel(2);
        Scene.started(k, 1, Scene.LOCK, 3, Scene.RUN, 9);
        Scene.started(k, 2, Scene.UNLOCK, 3, Scene.UNLOCK, 4, Scene.RUN, 9);
        k.tick(1);
        checks.same("4e nothing comes of it", k.holder(3), 0);
        checks.same("4e it goes on", k.ran(1, 1), 1);
        checks.same("4e free", k.holder(4), -1);
    }

    private void unlockToTheLeastKey() {
        BeadleKernel k = Scene.kernel(3);
        Scene.started(k, 0, Scene.LOCK, 0, Scene.RUN, 3, Scene.UNLOCK, 0, Scene.RUN, 9);
        k.tick(1);
        Scene.started(k, 5, Scene.LOCK, 0, Scene.RUN, 9);
        k.tick(1);
        Scene.started(k, 4, Scene.LOCK, 0, Scene.RUN, 9);
        k.tick(2);
        checks.same("4e the least key, not the first", k.holder(0), 2);
        checks.same("4e ready behind the step", k.stateOf(2) * 10 + k.stepOf(2), 11);
        checks.same("4e the other stays blocked", k.blocked(0), 2);
        checks.same("4e at its step", k.stepOf(1), 0);
        checks.same("4f waited in that tick", k.told(2, 1), 1);
        k.tick(1);
        checks.same("4d it is taken in the next", k.stateOf(2), Scene.RUNNING);
    }

    private void unlockToTheFirst() {
        BeadleKernel k = Scene.kernel(2);
        Scene.task(k, 4, 0, 1, Scene.LOCK, 0, Scene.RUN, 9);
        Scene.task(k, 4, 0, 1, Scene.LOCK, 0, Scene.RUN, 9);
        Scene.task(k, 0, 0, 1, Scene.LOCK, 0, Scene.RUN, 3, Scene.UNLOCK, 0, Scene.RUN, 9);
        k.start(2);
        k.tick(1);
        k.start(1);
        k.tick(1);
        k.start(0);
        k.tick(1);
        checks.same("4e both are blocked", k.blocked(0), 3);
        k.tick(1);
        checks.same("4e the first, not the least number", k.holder(0), 1);
        BeadleKernel same = Scene.kernel(3);
        Scene.task(same, 4, 0, 1, Scene.LOCK, 0, Scene.RUN, 9);
        Scene.task(same, 4, 0, 1, Scene.LOCK, 0, Scene.RUN, 9);
        Scene.task(same, 0, 0, 1, Scene.LOCK, 0, Scene.RUN, 1, Scene.UNLOCK, 0, Scene.RUN, 9);
        same.start(2);
        same.start(1);
        same.start(0);
        same.tick(1);
        checks.same("4e both in one tick", same.blocked(0), 3);
        same.tick(1);
        checks.same("4e the first in one tick, by processors", same.holder(0), 1);
    }

    private void unlockToTheLentKey() {
        BeadleKernel k = Scene.kernel(3);
        Scene.started(k, 7, Scene.LOCK, 0, Scene.RUN, 3, Scene.UNLOCK, 0, Scene.RUN, 9);
        k.tick(1);
        Scene.started(k, 6, Scene.LOCK, 1, Scene.LOCK, 0, Scene.RUN, 9);
        Scene.started(k, 5, Scene.RUN, 1, Scene.LOCK, 0, Scene.RUN, 9);
        k.tick(1);
        Scene.started(k, 1, Scene.LOCK, 1, Scene.RUN, 9);
        k.tick(1);
        checks.same("4e two at 0, one at 1", k.blocked(0) * 100 + k.blocked(1), 608);
        k.tick(1);
        checks.same("4e the least lent key", k.holder(0), 1);
        checks.same("4e the key of the other stays", k.lentKey(1), 1);
    }

    private void doneUnlocksByNumbers() {
        BeadleKernel k = Scene.kernel(3);
        Scene.started(k, 3, Scene.LOCK, 5, Scene.LOCK, 2, Scene.LOCK, 4, Scene.RUN, 3);
        k.tick(1);
        Scene.started(k, 4, Scene.LOCK, 5, Scene.RUN, 9);
        Scene.started(k, 5, Scene.LOCK, 2, Scene.RUN, 9);
        k.tick(2);
        checks.same("4e done in this tick", k.told(0, 4), 2);
        checks.same("4e by numbers", k.standOf(2) * 10 + k.standOf(1), 34);
        checks.same("4e holders", k.holder(2) * 10 + k.holder(5), 21);
        checks.same("4e free", k.holder(4), -1);
        checks.same("4f waited, not held up", k.told(1, 1) * 10 + k.told(1, 2), 11);
        checks.same("4e it has no processor", k.on(0), -1);
    }

    private void events() {
        BeadleKernel k = Scene.kernel(3);
        Scene.task(k, 5, 0, 1, Scene.AWAIT, 1, Scene.RUN, 9);
        Scene.started(k, 6, Scene.AWAIT, 1, Scene.RUN, 9);
        k.tick(1);
        k.start(0);
        k.tick(1);
        checks.same("4e both await", k.awaiting(1), 3);
        checks.same("16 at its step", k.stepOf(1), 0);
        Scene.started(k, 7, Scene.SIGNAL, 1, Scene.RUN, 1, Scene.SIGNAL, 1, Scene.SIGNAL, 1, Scene.RUN, 2);
        k.tick(1);
        checks.same("4e the first, not the least key or number", k.awaiting(1), 1);
        checks.same("4e ready behind the step", k.stateOf(1) * 10 + k.stepOf(1), 11);
        checks.same("4e the signal goes on to its run", k.told(2, 0), 1);
        checks.same("4f waited in that tick", k.told(1, 1), 1);
        checks.same("4e the number stays", k.number(1), 0);
        k.tick(1);
        checks.same("4e none is left", k.awaiting(1), 0);
        checks.same("4e 1 more", k.number(1), 1);
        checks.same("4f awaiting neither waits nor is held up", k.told(0, 2), 0);
        BeadleKernel same = Scene.kernel(2);
        Scene.started(same, 5, Scene.AWAIT, 1, Scene.RUN, 9);
        Scene.started(same, 4, Scene.AWAIT, 1, Scene.RUN, 9);
        same.tick(1);
        same.signal(1);
        checks.same("4e the first in one tick, by processors", same.awaiting(1), 1);
    }

    private void eventNumbers() {
        BeadleKernel k = Scene.kernel(1);
        for (int i = 0; i < 98; i++) {
            k.signal(3);
        }
        Scene.started(k, 5, Scene.SIGNAL, 3, Scene.SIGNAL, 3, Scene.RUN, 1, Scene.AWAIT, 3, Scene.AWAIT, 2,
                Scene.RUN, 1);
        k.tick(1);
        checks.same("4e not above 99", k.number(3), 99);
        k.tick(1);
        checks.same("4e taken is 1 less", k.number(3), 98);
        checks.same("4e at 0 it awaits", k.awaiting(2), 1);
        checks.same("16 at the step where it awaits", k.stepOf(0), 4);
        checks.same("4e the tick is idle", k.ran(0, 1), -1);
        BeadleKernel one = Scene.kernel(1);
        one.signal(0);
        Scene.started(one, 5, Scene.AWAIT, 0, Scene.RUN, 1, Scene.AWAIT, 0, Scene.RUN, 1);
        one.tick(2);
        checks.same("4e a number of 1 is taken once", one.stateOf(0) * 10 + one.stepOf(0), 52);
        checks.same("4e no number is left", one.number(0), 0);
    }

    private void yield() {
        BeadleKernel k = Scene.kernel(1);
        Scene.started(k, 5, Scene.RUN, 1, Scene.YIELD, 9, Scene.RUN, 2);
        Scene.started(k, 5, Scene.RUN, 1);
        k.tick(2);
        checks.same("4e ready behind the step", k.stateOf(0) * 10 + k.stepOf(0), 12);
        checks.same("4e a new stand", k.standOf(0), 2);
        checks.same("4e no processor", k.on(0), -1);
        checks.same("4f waited", k.told(0, 1), 1);
        k.tick(3);
        checks.same("4e the others come first", Scene.ran(k, 0, 5), "0-100");
    }

    private void times() {
        int[] more = {105, 120, 140, 168, 210, 280, 420, 840};
        for (int rank = 0; rank < more.length; rank++) {
            BeadleKernel k = Scene.kernel(1);
            k.setWay(2, 1, 0);
            Scene.started(k, rank, Scene.RUN, 20);
            k.tick(3);
            checks.same("4e time with the rank " + rank, k.keyOf(0), 3 * more[rank]);
            k.setWay(0, 1, 0);
            k.tick(2);
            k.setWay(1, 1, 0);
            k.tick(2);
            k.setWay(2, 1, 0);
            checks.same("4e no time with other ways", k.keyOf(0), 3 * more[rank]);
        }
        BeadleKernel fair = Scene.kernel(1);
        fair.setWay(2, 1, 0);
        Scene.started(fair, 0, Scene.RUN, 20);
        Scene.started(fair, 4, Scene.RUN, 20);
        // Keys 0 0, 105 0, 105 210, 210 210 (it is running), 315 210, ..
        fair.tick(9);
        checks.same("4d by times", Scene.ran(fair, 0, 9), "010010010");
    }

    private void wakingOfLevels() {
        BeadleKernel k = new BeadleKernel();
        k.setWay(1, 1, 0);
        Scene.started(k, 0, Scene.RUN, 4, Scene.SLEEP, 1, Scene.RUN, 1, Scene.AWAIT, 0, Scene.AWAIT, 0, Scene.RUN, 1);
        k.tick(4);
        checks.same("4c level", k.levelOf(0), 2);
        k.tick(2);
        // Tick 4 is the second of its turn of 4 ticks: it falls asleep then, and wakes in tick 5.
        checks.same("4 waking from sleep", k.levelOf(0), 1);
        checks.same("4 it ran", k.told(0, 0), 5);
        k.tick(1);
        checks.same("4 awaiting", k.stateOf(0) * 10 + k.stepOf(0), 53);
        k.signal(0);
        checks.same("4 waking from an event", k.levelOf(0), 0);
        k.tick(1);
        checks.same("4 awaiting again", k.stateOf(0) * 10 + k.stepOf(0), 54);
        k.signal(0);
        checks.same("4 not below 0", k.levelOf(0), 0);
        BeadleKernel lock = new BeadleKernel();
        lock.setProcessors(2);
        lock.setWay(1, 1, 0);
        Scene.started(lock, 0, Scene.RUN, 2, Scene.LOCK, 0, Scene.RUN, 1);
        Scene.started(lock, 0, Scene.LOCK, 0, Scene.RUN, 20);
        lock.tick(3);
        checks.same("4 blocked with its level", lock.stateOf(0) * 10 + lock.levelOf(0), 41);
        lock.setWay(0, 1, 0);
        lock.end(1);
        checks.same("4 no level is lost with another way", lock.levelOf(0), 1);
        BeadleKernel other = new BeadleKernel();
        other.setProcessors(2);
        other.setWay(1, 1, 0);
        Scene.started(other, 0, Scene.RUN, 2, Scene.LOCK, 0, Scene.RUN, 1);
        Scene.started(other, 0, Scene.LOCK, 0, Scene.RUN, 20);
        other.tick(3);
        other.end(1);
        checks.same("4 waking from a lock", other.levelOf(0), 0);
    }

    private void wakingOfTimes() {
        BeadleKernel k = Scene.kernel(1);
        k.setWay(2, 1, 0);
        Scene.started(k, 0, Scene.RUN, 1, Scene.SLEEP, 4, Scene.RUN, 5);
        Scene.started(k, 0, Scene.RUN, 20);
        k.tick(7);
        checks.same("4 asleep", k.stateOf(0) * 1000 + k.keyOf(0), 3105);
        k.tick(1);
        checks.same("4 the time of the other, as it woke", k.keyOf(0), 525);
        checks.same("4 the other ran on, at the same key", k.keyOf(1), 630);
        k.tick(3);
        checks.same("4 by turns then", Scene.ran(k, 0, 11), "011-1111001");
        BeadleKernel own = Scene.kernel(1);
        own.setWay(2, 1, 0);
        Scene.started(own, 7, Scene.RUN, 1, Scene.SLEEP, 1, Scene.RUN, 5);
        own.tick(2);
        Scene.started(own, 0, Scene.RUN, 20);
        own.tick(1);
        checks.same("4 its own time is not less", own.keyOf(0), 840);
        BeadleKernel alone = Scene.kernel(1);
        alone.setWay(2, 1, 0);
        Scene.started(alone, 0, Scene.RUN, 1, Scene.SLEEP, 1, Scene.RUN, 5);
        alone.tick(3);
        checks.same("4 without any others", alone.keyOf(0), 210);
        BeadleKernel ranks = Scene.kernel(1);
        ranks.setWay(2, 1, 0);
        Scene.started(ranks, 0, Scene.RUN, 1, Scene.AWAIT, 0, Scene.RUN, 5);
        Scene.started(ranks, 0, Scene.RUN, 20);
        ranks.tick(8);
        ranks.setWay(0, 1, 0);
        ranks.signal(0);
        ranks.setWay(2, 1, 0);
        checks.same("4 no time is given with another way", ranks.keyOf(0), 105);
    }

    private void wakingOfTimesInATick() {
        BeadleKernel k = Scene.kernel(2);
        k.setWay(2, 1, 0);
        Scene.started(k, 0, Scene.LOCK, 0, Scene.RUN, 2);
        Scene.started(k, 0, Scene.LOCK, 0, Scene.RUN, 2);
        k.tick(1);
        Scene.started(k, 0, Scene.RUN, 20);
        checks.same("8 the time of the one that runs", k.keyOf(2), 105);
        k.tick(1);
        // Processor 0: the first has 210 and is done; the one that wakes sees the third, which runs only then.
        checks.same("4 one that is done does not count, one that runs yet does as it is", k.keyOf(1), 105);
        checks.same("4 the third ran", k.keyOf(2), 210);
        BeadleKernel before = Scene.kernel(3);
        before.setWay(2, 1, 0);
        Scene.started(before, 0, Scene.RUN, 20);
        Scene.started(before, 0, Scene.LOCK, 0, Scene.RUN, 2);
        Scene.started(before, 0, Scene.LOCK, 0, Scene.RUN, 2);
        before.tick(1);
        checks.same("4 blocked with its time", before.stateOf(2) * 1000 + before.keyOf(2), 4000);
        before.tick(1);
        // Processor 0 has run already, so that its task has 210 as the lock is passed on by processor 1.
        checks.same("4 the time of one that has run in this tick", before.stateOf(2) * 1000 + before.keyOf(2), 1210);
    }

    private void stuck() {
        BeadleKernel k = Scene.kernel(3);
        Scene.started(k, 3, Scene.LOCK, 0, Scene.RUN, 1, Scene.LOCK, 1, Scene.RUN, 1);
        Scene.started(k, 3, Scene.LOCK, 1, Scene.RUN, 1, Scene.LOCK, 0, Scene.RUN, 1);
        Scene.started(k, 3, Scene.LOCK, 2, Scene.RUN, 1, Scene.LOCK, 0, Scene.RUN, 1);
        k.tick(1);
        checks.same("33 nobody", k.stuck(), 0);
        k.tick(1);
        checks.same("33 the ring, and the one that is blocked at it", k.stuck(), 7);
        Scene.started(k, 3, Scene.LOCK, 2, Scene.RUN, 1);
        Scene.started(k, 3, Scene.LOCK, 3, Scene.RUN, 9);
        checks.same("33 ready ones are not", k.stuck(), 7);
        k.tick(1);
        Scene.started(k, 3, Scene.LOCK, 3, Scene.RUN, 9);
        k.tick(1);
        checks.same("33 all are blocked, or run", Scene.states(k), "444424");
        checks.same("33 one that is blocked at a task that runs is not", k.stuck(), 15);
    }

    private void lendingInARing() {
        BeadleKernel k = Scene.kernel(3);
        Scene.started(k, 3, Scene.LOCK, 0, Scene.RUN, 1, Scene.LOCK, 1, Scene.RUN, 1);
        Scene.started(k, 5, Scene.LOCK, 1, Scene.RUN, 1, Scene.LOCK, 0, Scene.RUN, 1);
        Scene.started(k, 2, Scene.RUN, 1, Scene.LOCK, 0, Scene.RUN, 1);
        k.tick(2);
        checks.same("2 all are blocked", Scene.states(k), "444");
        checks.same("2 lent round the ring", k.lentKey(0) * 100 + k.lentKey(1) * 10 + k.lentKey(2), 222);
        k.setRank(2, 7);
        checks.same("2 not to the one outside", k.lentKey(0) * 100 + k.lentKey(1) * 10 + k.lentKey(2), 337);
    }

    private void endInARing() {
        BeadleKernel k = Scene.kernel(2);
        Scene.started(k, 3, Scene.LOCK, 0, Scene.RUN, 1, Scene.LOCK, 1, Scene.RUN, 1);
        Scene.started(k, 5, Scene.LOCK, 1, Scene.RUN, 1, Scene.LOCK, 0, Scene.RUN, 1);
        k.tick(2);
        checks.same("10 a ring", k.stuck(), 3);
        k.end(0);
        checks.same("10 no ring any more", k.stuck(), 0);
        checks.same("10 blocked no more", k.blocked(1), 0);
        checks.same("10 passed on", k.holder(0), 1);
        checks.same("10 nobody lends", k.lentKey(1), 5);
        k.tick(1);
        checks.same("10 the other goes on", k.stateOf(1), Scene.DONE);
    }

    private void rounds() {
        BeadleKernel k = Scene.kernel(1);
        k.start(Scene.task(k, 3, 0, 5, Scene.LOCK, 0, Scene.RUN, 2));
        for (int round = 1; round <= 5; round++) {
            k.tick(2);
            checks.same("17 rounds", k.roundsOf(0), round);
            checks.same("16 at step 0, or done", k.stepOf(0), round < 5 ? 0 : 2);
            checks.same("4e held over rounds", k.holder(0), round < 5 ? 0 : -1);
        }
        checks.same("4e done in the last tick", k.told(0, 4), 9);
        checks.same("4e without a pause", k.idle(), 0);
    }
}
