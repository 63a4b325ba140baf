/** "Ticks" and promises 21 and 22, edge by edge, each sentence above its own test. */
public final class TickEdgesTest {
    public static void main(String[] args) {
        Due due = new Due("TickEdgesTest");
        cleaningBecomesOneLess(due);
        cleaningOfEachUnit(due);
        cleaningComesFirst(due);
        cleaningAsSetAtRelease(due);
        cleaningOfABrokenUnit(due);
        noCleaning(due);
        descendingPriorities(due);
        ascendingNumbers(due);
        runningOrStopping(due);
        beginsWhenTheOneBeforeIsComplete(due);
        beginsInTheSameTick(due);
        lowestUnit(due);
        unitWithoutPiece(due);
        oneTickIsDone(due);
        pieceIsReleasedAtThePhasesEnd(due);
        pieceForALaterOneInTheSameTick(due);
        pieceForAnEarlierOneInTheNextTick(due);
        unitForALaterOneInTheSameTick(due);
        amountFromLeftToRight(due);
        amountAtThePhasesEnd(due);
        unitReleasedAheadOfAnotherKind(due);
        completeOne(due);
        completeThoughStopping(due);
        stoppedAheadOfTheSameKind(due);
        runOutOfRange(due);
        runAtItsEdges(due);
        runReturnsThoseThatBecomeComplete(due);
        runOfOneIsATickOfMany(due);
        runToTheLimit(due);
        runBeyondTheLimit(due);
        runInOneStepBeyondTheLimit(due);
        ticksToOfNone(due);
        ticksToInEveryState(due);
        ticksToOfACompleteOne(due);
        ticksToOneTick(due);
        ticksToAtItsEdge(due);
        ticksToOfOneThatWaitsForEver(due);
        ticksToOfOneTooLarge(due);
        ticksToThroughCleaning(due);
        ticksToOfAStoppingOne(due);
        ticksToIsWhatRunFinds(due);
        ticksToNearTheLimit(due);
        due.end();
    }

    /** "for each unit that has ticks of cleaning left, these become 1 less": and none below 0. */
    private static void cleaningBecomesOneLess(Due due) {
        BatchExecutive x = Scene.of("m1;", 0);
        x.setCleaning(30);
        Scene.go(x);
        x.run(1);
        for (int left = 30; left > 0; left--) {
            due.is("left", x.unitInfo(0, 4), left);
            x.run(1);
        }
        due.is("clean", x.unitInfo(0, 4), 0);
        x.run(1);
        due.is("clean still", x.unitInfo(0, 4), 0);
        x.run(500);
        due.is("clean for ever", x.unitInfo(0, 4), 0);
    }

    /** "for each unit that has ticks of cleaning left". */
    private static void cleaningOfEachUnit(Due due) {
        BatchExecutive x = new BatchExecutive();
        for (int unit = 0; unit < 8; unit++) {
            x.unit(0, 10);
        }
        Due.recipe(x, 0, "m1;");
        x.setCleaning(20);
        for (int unit = 0; unit < 8; unit++) {
            Scene.go(x);
        }
        x.run(1);
        for (int unit = 0; unit < 8; unit++) {
            due.is("unit " + unit, x.unitInfo(unit, 4), 20);
        }
        x.run(3);
        for (int unit = 0; unit < 8; unit++) {
            due.is("unit " + unit + " later", x.unitInfo(unit, 4), 17);
        }
    }

    /** "In a tick, first, ... cleaning": so a unit with one tick left is got in that very tick. */
    private static void cleaningComesFirst(Due due) {
        BatchExecutive x = Scene.of("m1;", 0);
        x.setCleaning(1);
        Scene.go(x);
        Scene.go(x);
        due.is("the first one", x.run(1), 1);
        due.is("one tick left", x.unitInfo(0, 4), 1);
        due.is("the second one", x.run(1), 1);
    }

    /** "has to be cleaned for so many ticks as the setting cleaning tells then (0 to 30; at first 2)". */
    private static void cleaningAsSetAtRelease(Due due) {
        BatchExecutive x = Scene.of("m1;", 0);
        Scene.go(x);
        x.run(1);
        due.is("at first", x.unitInfo(0, 4), 2);
        x.setCleaning(30);
        due.is("a later setting does not count", x.unitInfo(0, 4), 2);
        x.run(2);
        Scene.go(x);
        x.run(1);
        due.is("the greatest", x.unitInfo(0, 4), 30);
        x.setCleaning(0);
        due.is("a later one does not count either", x.unitInfo(0, 4), 30);
        x.run(30);
        Scene.go(x);
        x.run(1);
        due.is("the least", x.unitInfo(0, 4), 0);
        Due.recipe(x, 0, "m2;");
        Scene.go(x);
        x.run(1);
        x.setCleaning(5);
        x.run(1);
        due.is("set while it was at work", x.unitInfo(0, 4), 5);
    }

    /** "for each unit": broken ones are not left out. */
    private static void cleaningOfABrokenUnit(Due due) {
        BatchExecutive x = Scene.of("m1;", 0);
        Scene.go(x);
        x.run(1);
        x.fail(0);
        due.is("to be cleaned", x.unitInfo(0, 4), 2);
        x.run(2);
        due.is("clean", x.unitInfo(0, 4), 0);
        due.is("broken", x.unitInfo(0, 6), 0);
        x.repair(0);
        due.is("free at once", x.unitInfo(0, 6), 1);
    }

    /** "What is released is free at once, unless it has to be cleaned." */
    private static void noCleaning(Due due) {
        BatchExecutive x = Scene.of("m1;", 0);
        x.setCleaning(0);
        for (int batch = 0; batch < 12; batch++) {
            Scene.go(x);
        }
        due.is("all twelve in one tick, one behind the other in one unit", x.run(1), 12);
        due.is("its ticks", x.unitInfo(0, 5), 12);
        due.is("free", x.unitInfo(0, 6), 1);
        due.is("each got it, ended, and was complete", x.count(13), 36);
        due.is("all in tick 0", x.event(0, 0) + x.event(35, 0), 0);
    }

    /** "gone through by descending priorities": from 9 to 0. */
    private static void descendingPriorities(Due due) {
        BatchExecutive x = Scene.of("m1;", 0);
        x.setCleaning(1);
        for (int priority = 0; priority <= 9; priority++) {
            Scene.go(x, priority, -1);
        }
        for (int priority = 9; priority >= 0; priority--) {
            x.run(1);
            due.is("who was it", x.event(0, 1), priority);
        }
        due.is("all of them", x.count(10), 10);
    }

    /** "those with equal priorities by ascending numbers". */
    private static void ascendingNumbers(Due due) {
        BatchExecutive x = Scene.of("m1;", 0);
        x.setCleaning(1);
        for (int batch = 0; batch < 12; batch++) {
            x.batch(0, 10, 3, -1);
        }
        for (int batch = 11; batch >= 0; batch--) {
            x.start(batch);
        }
        for (int batch = 0; batch < 12; batch++) {
            x.run(1);
            due.is("who was it", x.event(0, 1), batch);
        }
    }

    /** "the batches that are running or stopping are gone through": no others. */
    private static void runningOrStopping(Due due) {
        Scene.inStates(due, "ticks left behind one tick", (x, batch) -> {
            x.run(1);
            return x.batchInfo(batch, 7);
        }, 3, 1, 2, 1, 3, 3, -4);
    }

    /** "it has a batch before it that is not complete": it waits to its last tick. */
    private static void beginsWhenTheOneBeforeIsComplete(Due due) {
        BatchExecutive x = Scene.of("m3;", 0, 0);
        x.batch(0, 10, 0, -1);
        Scene.go(x, 9, 0);
        x.run(3);
        due.is("it waits while that is ready", x.batchInfo(1, 8), -4);
        x.start(0);
        x.run(2);
        due.is("it waits while that is running", x.batchInfo(1, 8), -4);
        x.run(1);
        due.is("gone through ahead of that, it waits in its last tick too", x.batchInfo(1, 8), -4);
        x.run(1);
        due.is("then it works", x.batchInfo(1, 7), 2);
    }

    /** The same: gone through behind the one before it, it begins in the tick that completes that. */
    private static void beginsInTheSameTick(Due due) {
        BatchExecutive x = Scene.of("m3;", 0, 0);
        Scene.go(x, 0, -1);
        Scene.go(x, 0, 0);
        x.run(2);
        due.is("it waits", x.waits(1), 1);
        x.run(1);
        due.is("that is complete", x.batchInfo(0, 5), 6);
        due.is("one tick is done", x.batchInfo(1, 7), 2);
    }

    /** "it gets the lowest such unit": whole, clean, nobody's, of the kind and with the capacity. */
    private static void lowestUnit(Due due) {
        BatchExecutive x = new BatchExecutive();
        x.unit(0, 10);
        x.unit(0, 10);
        x.unit(0, 10);
        x.unit(1, 10);
        x.unit(0, 9);
        x.unit(0, 10);
        x.unit(0, 11);
        Due.recipe(x, 0, "m1;");
        Due.recipe(x, 1, "m9;");
        x.fail(0);
        x.setCleaning(9);
        Scene.go(x);
        x.run(1);
        x.start(x.batch(1, 10, 0, -1));
        x.run(1);
        due.is("the first one was in unit 1", x.unitInfo(1, 4), 8);
        due.is("the second is in unit 2", x.batchInfo(1, 8), 2);
        Scene.go(x);
        x.run(1);
        due.is("the third was in unit 5", x.unitInfo(5, 5), 1);
        due.is("and no other in 6", x.unitInfo(6, 5), 0);
        due.is("nor in 4", x.unitInfo(4, 5), 0);
    }

    /** "it waits for the reason 3": the unit it has got by then, and keeps. */
    private static void unitWithoutPiece(Due due) {
        BatchExecutive x = Scene.of("m4s1;", 0, 0);
        Scene.go(x);
        Scene.go(x);
        x.run(3);
        due.is("it has a unit", x.batchInfo(1, 8), 1);
        due.is("which did not work", x.unitInfo(1, 5), 0);
        due.is("no tick is done", x.batchInfo(1, 7), 4);
        due.is("got in tick 0", x.event(0, 0) * 100 + x.event(0, 1) * 10 + x.event(0, 2), 10);
        due.is("and but once", x.count(13), 2);
    }

    /** "then one tick of its phase is done, and the unit has worked for one more tick." */
    private static void oneTickIsDone(Due due) {
        BatchExecutive x = Scene.of("m99;", 0);
        Scene.go(x);
        for (int done = 1; done <= 98; done++) {
            x.run(1);
            due.is("left", x.batchInfo(0, 7), 99 - done);
            due.is("worked", x.unitInfo(0, 5), done);
        }
        due.is("the last tick", x.run(1), 1);
    }

    /** "its shared equipment is released": also if the next phase needs it again. */
    private static void pieceIsReleasedAtThePhasesEnd(Due due) {
        BatchExecutive x = Scene.of("m2s1;m2s1;m1;", 0);
        Scene.go(x);
        int[] want = {0, -4, 0, -4, -4};
        for (int tick = 0; tick < want.length; tick++) {
            x.run(1);
            due.is("behind tick " + tick, x.shared(1), want[tick]);
        }
    }

    /** "What is released is free at once": for one gone through later in the tick. */
    private static void pieceForALaterOneInTheSameTick(Due due) {
        BatchExecutive x = Scene.of("m2s1;m2s1;", 0, 0);
        Scene.go(x);
        Scene.go(x);
        x.run(2);
        due.is("the second has it", x.shared(1), 1);
        due.is("one tick is done", x.batchInfo(1, 7), 1);
        due.is("the first waits for it", x.waits(0), 3);
        x.run(1);
        due.is("the second ended, and the first comes in the next tick", x.shared(1), -4);
        x.run(1);
        due.is("now", x.shared(1), 0);
    }

    /** The same: one gone through earlier has waited already. */
    private static void pieceForAnEarlierOneInTheNextTick(Due due) {
        BatchExecutive x = Scene.of("m2s1;", 0, 0);
        Scene.go(x, 0, -1);
        x.run(1);
        Scene.go(x, 9, -1);
        x.run(1);
        due.is("the first one is complete", x.batchInfo(0, 5), 6);
        due.is("the piece is free", x.shared(1), -4);
        due.is("the second has done nothing", x.batchInfo(1, 9), 0);
        x.run(1);
        due.is("now it has", x.batchInfo(1, 9), 1);
    }

    /** "What is released is free at once": a unit without cleaning, and one with. */
    private static void unitForALaterOneInTheSameTick(Due due) {
        for (int cleaning = 0; cleaning <= 1; cleaning++) {
            BatchExecutive x = Scene.of("m2;r1;", 0, 1);
            x.setCleaning(cleaning);
            Scene.go(x);
            Scene.go(x);
            x.run(2);
            due.is("the second one with cleaning " + cleaning, x.batchInfo(1, 8), cleaning == 0 ? 0 : -4);
        }
    }

    /** "(float) amount * (float) yield / (float) 100 (as floats, from left to right)". */
    private static void amountFromLeftToRight(Due due) {
        int differing = 0;
        for (int size = 1; size <= 97; size += 4) {
            BatchExecutive x = Scene.of("m1y29;m1y58;m1y83;m1y7;", 0);
            x.unit(0, 10000);
            x.batch(0, size, 0, -1);
            x.start(0);
            x.run(4);
            float amount = (float) size;
            float other = (float) size;
            for (int percent : new int[] {29, 58, 83, 7}) {
                amount = amount * (float) percent / (float) 100;
                other = other * ((float) percent / (float) 100);
            }
            differing += amount == other ? 0 : 1;
            due.is("bits of " + size, x.batchInfo(0, 10), Float.floatToIntBits(amount));
        }
        due.holds("from right to left it would be another amount", differing > 0);
    }

    /** "If all ticks of the phase are done then, ... its amount becomes": not with any tick ahead. */
    private static void amountAtThePhasesEnd(Due due) {
        BatchExecutive x = Scene.of("m3y50;m2y10;", 0);
        Scene.go(x);
        int[] want = {10, 10, 5, 5, 0};
        for (int tick = 0; tick < want.length; tick++) {
            x.run(1);
            due.is("behind tick " + tick, x.batchInfo(0, 11), want[tick]);
        }
        due.is("a half is left", x.batchInfo(0, 10), Float.floatToIntBits(0.5f));
    }

    /** "its unit is released if ... the next one has another kind": each pair of kinds. */
    private static void unitReleasedAheadOfAnotherKind(Due due) {
        for (int first = 0; first <= 3; first++) {
            for (int next = 0; next <= 3; next++) {
                BatchExecutive x = Scene.of("mrfp".charAt(first) + "1;" + "mrfp".charAt(next) + "1;", 0, 1, 2, 3);
                Scene.go(x);
                x.run(1);
                due.is("unit of " + first + " ahead of " + next, x.batchInfo(0, 8), first == next ? first : -4);
                due.is("its cleaning", x.unitInfo(first, 4), first == next ? 0 : 2);
            }
        }
    }

    /** "its unit is released if there is none"; "If there is none, the batch is complete". */
    private static void completeOne(Due due) {
        BatchExecutive x = Scene.of("m1s0;m1s1;", 0);
        Scene.go(x);
        due.is("not yet", x.run(1), 0);
        due.is("it runs", x.batchInfo(0, 5), 1);
        due.is("complete", x.run(1), 1);
        due.is("its state", x.batchInfo(0, 5), 6);
        due.is("its unit", x.batchInfo(0, 8), -4);
        due.is("the unit's batch", x.unitInfo(0, 2), -4);
        due.is("to be cleaned", x.unitInfo(0, 4), 2);
        due.is("its piece", x.count(17), 3);
    }

    /** "If there is none, the batch is complete; otherwise, if it is stopping, it is stopped". */
    private static void completeThoughStopping(Due due) {
        BatchExecutive x = Scene.of("m1;m2;", 0);
        Scene.go(x);
        x.run(2);
        due.is("stopping in its last phase", x.stop(0), 3);
        due.is("complete", x.run(1), 1);
        due.is("its state", x.batchInfo(0, 5), 6);
        due.is("no stopped one", x.count(8), 0);
    }

    /** "otherwise, if it is stopping, it is stopped, and its unit is released": though the kind stays. */
    private static void stoppedAheadOfTheSameKind(Due due) {
        BatchExecutive x = Scene.of("m2;m2;", 0);
        Scene.go(x);
        x.run(1);
        x.stop(0);
        due.is("none is complete", x.run(1), 0);
        due.is("its state", x.batchInfo(0, 5), 4);
        due.is("its unit", x.batchInfo(0, 8), -4);
        due.is("to be cleaned", x.unitInfo(0, 4), 2);
        x.run(9);
        due.is("it stays ahead of its next phase", x.batchInfo(0, 6) * 10 + x.batchInfo(0, 7), 12);
    }

    /** "ticks: 1 to 500"; "INVALID_ARGUMENT if ticks is out of range". */
    private static void runOutOfRange(Due due) {
        Scene.range(due, "run", 1, 500, (x, ticks) -> x.run(ticks));
        due.is("no tick", new BatchExecutive().run(0), -1);
    }

    /** "ticks: 1 to 500": so many go by. */
    private static void runAtItsEdges(Due due) {
        BatchExecutive x = new BatchExecutive();
        due.is("of nothing", x.run(1), 0);
        due.is("one", x.count(11), 1);
        x.run(500);
        due.is("and five hundred", x.count(11), 501);
        x.run(501);
        due.is("and none", x.count(11), 501);
    }

    /** "Returns how many batches become complete": from 0 to 12, and those of before do not count. */
    private static void runReturnsThoseThatBecomeComplete(Due due) {
        BatchExecutive x = Scene.of("m2;", 0, 0);
        x.setCleaning(0);
        for (int batch = 0; batch < 12; batch++) {
            Scene.go(x);
        }
        int[] want = {0, 2, 2, 2};
        for (int tick = 0; tick < want.length; tick++) {
            due.is("in tick " + tick, x.run(1), want[tick]);
        }
        due.is("the others", x.run(500), 6);
        due.is("no more", x.run(500), 0);
        x = Scene.states();
        due.is("stopped ones do not count", x.run(2), 0);
        due.is("though one was stopped", x.batchInfo(3, 5), 4);
    }

    /** Many ticks of one call are the same as many calls. */
    private static void runOfOneIsATickOfMany(Due due) {
        BatchExecutive x = many();
        BatchExecutive y = many();
        x.run(25);
        for (int tick = 0; tick < 25; tick++) {
            y.run(1);
        }
        for (int batch = 0; batch < 6; batch++) {
            for (int what = 5; what <= 11; what++) {
                due.is("batchInfo(" + batch + ", " + what + ")", x.batchInfo(batch, what), y.batchInfo(batch, what));
            }
        }
        for (int index = 0; index < 40; index++) {
            due.is("tick of event " + index, x.event(index, 0), y.event(index, 0));
            due.is("batch of event " + index, x.event(index, 1), y.event(index, 1));
        }
    }

    private static BatchExecutive many() {
        BatchExecutive x = Scene.of("m2s1y90;r3;m1;", 0, 1, 0);
        for (int batch = 0; batch < 6; batch++) {
            Scene.go(x, batch % 3, Math.max(-1, batch - 3));
        }
        return x;
    }

    /** An executive that so many ticks, a multiple of 500, have gone by in. */
    private static BatchExecutive old(int ticks) {
        BatchExecutive x = Scene.of("m99;", 0);
        for (int gone = 0; gone < ticks; gone += 500) {
            x.run(500);
        }
        return x;
    }

    /** "LIMIT_REACHED if there would be more than 50000 ticks in all": 50000 there may be. */
    private static void runToTheLimit(Due due) {
        BatchExecutive x = old(49500);
        due.is("to the limit", x.run(500), 0);
        due.is("ticks", x.count(11), 50000);
        due.is("none more", x.run(1), -3);
        due.is("nor many", x.run(500), -3);
        due.is("no tick went by", x.count(11), 50000);
        due.is("out of range all the same", x.run(0), -1);
        due.is("undo makes room", x.undo(), 3);
        due.is("to the limit again", x.run(500), 0);
    }

    /** The same: with one tick of room. */
    private static void runBeyondTheLimit(Due due) {
        BatchExecutive x = old(49500);
        x.run(499);
        due.is("two", x.run(2), -3);
        due.is("ticks", x.count(11), 49999);
        due.is("one", x.run(1), 0);
        due.is("one more", x.run(1), -3);
    }

    /** The same: the ticks that there is room for do not go by. */
    private static void runInOneStepBeyondTheLimit(Due due) {
        BatchExecutive x = old(49500);
        x.run(1);
        Scene.go(x);
        due.is("one too many", x.run(500), -3);
        due.is("none of them went by", x.batchInfo(0, 7), 99);
        due.is("the last that there is room for", x.run(499), 1);
        due.is("ticks", x.count(11), 50000);
    }

    /** "INVALID_ARGUMENT": ticksTo no batch. */
    private static void ticksToOfNone(Due due) {
        due.is("ticksTo where there is none", new BatchExecutive().ticksTo(0), -1);
        Scene.noneBut(due, "ticksTo", Scene.states(), 7, (x, batch) -> x.ticksTo(batch));
    }

    /** "NOT_FOUND if it is not complete", "if no command is given": in each state, with all that it needs. */
    private static void ticksToInEveryState(Due due) {
        Scene.inStates(due, "ticksTo", (x, batch) -> {
            x.unit(1, 10);
            return x.ticksTo(batch);
        }, -4, 5, -4, -4, -4, -4, 0);
    }

    /** "0 if it is complete". */
    private static void ticksToOfACompleteOne(Due due) {
        BatchExecutive x = Scene.of("m2;", 0);
        Scene.go(x);
        for (int left = 2; left >= 0; left--) {
            due.is("left", x.ticksTo(0), left);
            x.run(1);
        }
        due.is("and ever after", x.ticksTo(0), 0);
    }

    /** "Tells after how many ticks a batch is complete": 1 at the least. */
    private static void ticksToOneTick(Due due) {
        BatchExecutive x = Scene.of("m1;", 0);
        Scene.go(x);
        due.is("one tick", x.ticksTo(0), 1);
        due.is("no tick went by", x.count(11), 0);
        due.is("nothing happened", x.count(13), 0);
        due.is("it is no change", x.count(14), 4);
        due.is("asked again", x.ticksTo(0), 1);
    }

    /** "NOT_FOUND if it is not complete within 2000 ticks": 2000 are within, 2001 are not. */
    private static void ticksToAtItsEdge(Due due) {
        BatchExecutive x = Scene.of("m99;m99;m99;m99;m99;m99;m99;m99;", 0);
        Due.recipe(x, 1, "m99;m99;m99;m99;m22;");
        Due.recipe(x, 2, "m99;m99;m99;m99;m23;");
        x.setCleaning(0);
        Scene.go(x, 9, -1);
        Scene.go(x, 8, -1);
        x.start(x.batch(1, 10, 1, -1));
        due.is("the first", x.ticksTo(0), 792);
        due.is("the second, from the first one's last tick on", x.ticksTo(1), 1583);
        due.is("the third, just within", x.ticksTo(2), 2000);
        x.start(x.batch(2, 10, 2, -1));
        due.is("another third, just beyond", x.ticksTo(3), -4);
        x.run(1);
        due.is("one tick later it is within", x.ticksTo(3), 2000);
        x.undo();
        due.is("and beyond again", x.ticksTo(3), -4);
    }

    /** "NOT_FOUND": one that waits for what does not come. */
    private static void ticksToOfOneThatWaitsForEver(Due due) {
        BatchExecutive x = Scene.of("m2s0;", 0, 0);
        Due.recipe(x, 1, "r1;");
        Scene.go(x);
        Scene.go(x, 0, 0);
        x.start(x.batch(1, 10, 0, -1));
        due.is("no reactor", x.ticksTo(2), -4);
        due.is("behind another", x.ticksTo(1), 3);
        x.hold(0);
        due.is("behind a held one", x.ticksTo(1), -4);
        x.restart(0);
        x.fail(0);
        x.fail(1);
        due.is("all units are broken", x.ticksTo(0), -4);
        x.repair(1);
        due.is("another is whole", x.ticksTo(0), 2);
    }

    /** "NOT_FOUND": one that no unit is large enough for. */
    private static void ticksToOfOneTooLarge(Due due) {
        BatchExecutive x = Scene.of("m2;", 0);
        x.start(x.batch(0, 11, 0, -1));
        x.start(x.batch(0, 10, 0, -1));
        due.is("a size of 11 for a capacity of 10", x.ticksTo(0), -4);
        due.is("a size of 10", x.ticksTo(1), 2);
    }

    /** "after how many ticks": also those in which nothing is done but cleaning. */
    private static void ticksToThroughCleaning(Due due) {
        BatchExecutive x = Scene.of("m1;", 0);
        x.setCleaning(30);
        Scene.go(x);
        x.run(1);
        Scene.go(x);
        due.is("in the last tick of cleaning it works", x.ticksTo(1), 30);
        x.run(29);
        due.is("not complete by the one ahead of it", x.batchInfo(1, 5), 1);
        due.is("but by that", x.run(1), 1);
    }

    /** A stopping batch is complete by its last phase, and not by another. */
    private static void ticksToOfAStoppingOne(Due due) {
        BatchExecutive x = Scene.of("m3;m3;", 0);
        Scene.go(x);
        x.run(1);
        due.is("running", x.ticksTo(0), 5);
        x.stop(0);
        due.is("stopping in its first phase", x.ticksTo(0), -4);
        x.undo();
        x.run(3);
        x.stop(0);
        due.is("stopping in its last phase", x.ticksTo(0), 2);
    }

    /** What ticksTo tells is what run brings. */
    private static void ticksToIsWhatRunFinds(Due due) {
        for (int batch = 0; batch < 6; batch++) {
            BatchExecutive x = many();
            int ticks = x.ticksTo(batch);
            due.holds("it is told", ticks > 1);
            x.run(ticks - 1);
            due.is("one tick less", x.ticksTo(batch), 1);
            due.holds("not complete", x.batchInfo(batch, 5) != 6);
            x.run(1);
            due.is("complete", x.batchInfo(batch, 5), 6);
        }
    }

    /** The limit of 50000 ticks is told of run alone. */
    private static void ticksToNearTheLimit(Due due) {
        BatchExecutive x = old(50000);
        Scene.go(x);
        due.is("beyond the limit", x.ticksTo(0), 99);
        due.is("though run is not possible", x.run(1), -3);
    }
}
