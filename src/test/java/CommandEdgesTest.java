/** "Commands" and promises 13 to 16, edge by edge, each sentence above its own test. */
public final class CommandEdgesTest {
    public static void main(String[] args) {
        Due due = new Due("CommandEdgesTest");
        holdInEveryState(due);
        holdCountsHeldOnes(due);
        holdOfNone(due);
        holdReleasesThePiece(due);
        holdKeepsTheUnit(due);
        holdWithoutAUnit(due);
        restartInEveryState(due);
        restartOfNone(due);
        restartReturnsTicksLeft(due);
        restartOfAStoppingOne(due);
        restartWithTheMark(due);
        restartWithTheMarkNotUnderWay(due);
        restartWithoutTheMark(due);
        restartWithABrokenUnit(due);
        restartWithoutAUnit(due);
        restartWithoutItsPiece(due);
        stopInEveryState(due);
        stopOfNone(due);
        stopUnderWay(due);
        stopNotUnderWay(due);
        stopBetweenPhases(due);
        stopOfAHeldOne(due);
        stopOfAHeldOneThatWasStopping(due);
        stopReleasesAll(due);
        abortInEveryState(due);
        abortOfNone(due);
        abortReturnsHowMany(due);
        abortOfAllTwelve(due);
        abortOfThoseThatFollow(due);
        abortOfBranches(due);
        abortLeavesEnds(due);
        abortReleasesAll(due);
        abortOfOneWithoutAnything(due);
        endsAreEnds(due);
        due.end();
    }

    /** "NOT_POSSIBLE if it is neither running nor stopping." */
    private static void holdInEveryState(Due due) {
        Scene.inStates(due, "hold", (x, batch) -> x.hold(batch), -2, 2, -2, 2, -2, -2, -2);
        Scene.inStates(due, "state behind hold", (x, batch) -> {
            x.hold(batch);
            return x.batchInfo(batch, 5);
        }, 0, 2, 2, 2, 4, 5, 6);
    }

    /** "Returns how many batches are held then": from 1 to 12. */
    private static void holdCountsHeldOnes(Due due) {
        BatchExecutive x = Scene.of("m5;");
        for (int batch = 0; batch < 12; batch++) {
            Scene.go(x);
        }
        for (int held = 1; held <= 12; held++) {
            due.is("held ones", x.hold(12 - held), held);
        }
    }

    /** "If there is no ... batch ... with a certain number, this is INVALID_ARGUMENT." */
    private static void holdOfNone(Due due) {
        due.is("hold where there is none", new BatchExecutive().hold(0), -1);
        Scene.noneBut(due, "hold", Scene.states(), 7, (x, batch) -> x.hold(batch));
    }

    /** "its shared equipment is released": its own alone, and at once. */
    private static void holdReleasesThePiece(Due due) {
        BatchExecutive x = Scene.of("m9s2;", 0, 0);
        Due.recipe(x, 1, "m9s0;");
        Scene.go(x);
        x.start(x.batch(1, 10, 0, -1));
        x.run(1);
        due.is("one piece is free", x.count(17), 1);
        x.hold(0);
        due.is("its piece", x.shared(2), -4);
        due.is("the other one's piece", x.shared(0), 1);
        x.stop(1);
        x.hold(1);
        due.is("also of a stopping one", x.shared(0), -4);
    }

    /** "its unit stays": through ticks too, and without cleaning. */
    private static void holdKeepsTheUnit(Due due) {
        BatchExecutive x = Scene.of("m9;", 0);
        Scene.go(x);
        x.run(1);
        x.hold(0);
        x.run(500);
        due.is("its unit", x.batchInfo(0, 8), 0);
        due.is("the unit's batch", x.unitInfo(0, 2), 0);
        due.is("nothing to clean", x.unitInfo(0, 4), 0);
        due.is("it did not work", x.unitInfo(0, 5), 1);
    }

    /** "To hold one that is running": also one that has got nothing yet. */
    private static void holdWithoutAUnit(Due due) {
        BatchExecutive x = Scene.of("m9;");
        Scene.go(x);
        due.is("hold", x.hold(0), 1);
        x.unit(0, 10);
        x.run(3);
        due.is("a held one gets no unit", x.batchInfo(0, 8), -4);
        due.is("its hold is the one event", x.count(13), 1);
    }

    /** "NOT_POSSIBLE if it is not held": in each state. */
    private static void restartInEveryState(Due due) {
        Scene.inStates(due, "restart", (x, batch) -> x.restart(batch), -2, -2, 2, -2, -2, -2, -2);
        Scene.inStates(due, "state behind restart", (x, batch) -> {
            x.restart(batch);
            return x.batchInfo(batch, 5);
        }, 0, 1, 1, 3, 4, 5, 6);
    }

    /** "If there is no ... batch ... with a certain number, this is INVALID_ARGUMENT." */
    private static void restartOfNone(Due due) {
        due.is("restart where there is none", new BatchExecutive().restart(0), -1);
        Scene.noneBut(due, "restart", Scene.states(), 7, (x, batch) -> x.restart(batch));
    }

    /** "Returns the ticks that are left of its phase": from all of them to the last one. */
    private static void restartReturnsTicksLeft(Due due) {
        BatchExecutive x = Scene.of("m3;m2;", 0);
        Scene.go(x);
        for (int left : new int[] {3, 2, 1, 2, 1}) {
            x.hold(0);
            due.is("left", x.restart(0), left);
            x.run(1);
        }
        due.is("complete", x.batchInfo(0, 5), 6);
    }

    /** "To restart one that is held makes it running (also if it was stopping)". */
    private static void restartOfAStoppingOne(Due due) {
        BatchExecutive x = Scene.states();
        x.hold(3);
        due.is("restart", x.restart(3), 2);
        due.is("running", x.batchInfo(3, 5), 1);
        x.run(2);
        due.is("behind its phase it runs on", x.batchInfo(3, 5), 1);
        due.is("in its next phase", x.batchInfo(3, 6), 1);
    }

    /** "a phase under way with the mark begins again from its first tick": with one tick done, and with all but one. */
    private static void restartWithTheMark(Due due) {
        for (int done = 1; done <= 3; done++) {
            BatchExecutive x = Scene.of("m4y50a;", 0);
            Scene.go(x);
            x.run(done);
            x.hold(0);
            due.is("restart behind " + done, x.restart(0), 4);
            due.is("not under way", x.batchInfo(0, 9), 0);
            due.is("too few ticks", x.run(3), 0);
            due.is("all ticks anew", x.run(1), 1);
            due.is("the yield counts once", x.batchInfo(0, 11), 5);
            due.is("the unit worked for both", x.unitInfo(0, 5), done + 4);
        }
    }

    /** "a phase under way with the mark": one not under way has nothing to begin again. */
    private static void restartWithTheMarkNotUnderWay(Due due) {
        BatchExecutive x = Scene.of("m2a;m3a;", 0);
        Scene.go(x);
        x.hold(0);
        due.is("before the first tick", x.restart(0), 2);
        x.run(2);
        x.hold(0);
        due.is("between the phases", x.restart(0), 3);
        due.is("the first phase stays done", x.batchInfo(0, 6), 1);
        due.is("to the end", x.run(3), 1);
    }

    /** The mark of another phase does not count. */
    private static void restartWithoutTheMark(Due due) {
        BatchExecutive x = Scene.of("m3a;m3;m3a;", 0);
        Scene.go(x);
        x.run(5);
        x.hold(0);
        due.is("restart", x.restart(0), 1);
        due.is("under way still", x.batchInfo(0, 9), 1);
    }

    /** "(If its unit is broken, it cannot be restarted.)" "NOT_POSSIBLE if ... its unit is broken." */
    private static void restartWithABrokenUnit(Due due) {
        BatchExecutive x = Scene.states();
        x.fail(0);
        due.is("unit 0 of batch 1", x.restart(1), -2);
        x.fail(1);
        due.is("unit 1 of batch 2, that was held before", x.restart(2), -2);
        x.repair(0);
        due.is("repaired", x.restart(1), 2);
        due.is("the other is broken still", x.restart(2), -2);
        x.repair(1);
        due.is("repaired too", x.restart(2), 2);
    }

    /** Without a unit there is none that is broken. */
    private static void restartWithoutAUnit(Due due) {
        BatchExecutive x = Scene.of("m4;", 0);
        Scene.go(x);
        x.hold(0);
        x.fail(0);
        due.is("restart", x.restart(0), 4);
        due.is("running", x.batchInfo(0, 5), 1);
    }

    /** What a hold released does not come back by the restart. */
    private static void restartWithoutItsPiece(Due due) {
        BatchExecutive x = Scene.of("m4s1;", 0, 0);
        Scene.go(x);
        Scene.go(x);
        x.run(1);
        x.hold(0);
        x.run(1);
        x.restart(0);
        due.is("the other has it", x.shared(1), 1);
        due.is("so it waits, under way as it is", x.waits(0), 3);
        due.is("and comes to stopping, for its phase is under way", x.stop(0), 3);
        due.is("in which it waits too", x.waits(0), 3);
    }

    /** "NOT_POSSIBLE if it is neither running nor held."; "Returns its state then". */
    private static void stopInEveryState(Due due) {
        Scene.inStates(due, "stop", (x, batch) -> x.stop(batch), -2, 3, 4, -2, -2, -2, -2);
        Scene.inStates(due, "state behind stop", (x, batch) -> {
            x.stop(batch);
            return x.batchInfo(batch, 5);
        }, 0, 3, 4, 3, 4, 5, 6);
    }

    /** "If there is no ... batch ... with a certain number, this is INVALID_ARGUMENT." */
    private static void stopOfNone(Due due) {
        due.is("stop where there is none", new BatchExecutive().stop(0), -1);
        Scene.noneBut(due, "stop", Scene.states(), 7, (x, batch) -> x.stop(batch));
    }

    /** "To stop one that is running: if a phase is under way, it is stopping": with one tick done, and with all but one. */
    private static void stopUnderWay(Due due) {
        for (int done = 1; done <= 3; done++) {
            BatchExecutive x = Scene.of("m4;m4;", 0);
            Scene.go(x);
            x.run(done);
            due.is("stop behind " + done, x.stop(0), 3);
            due.is("no event yet", x.count(13), 1);
            x.run(3 - done);
            due.is("stopping to its last tick", x.batchInfo(0, 5), 3);
            x.run(1);
            due.is("stopped behind it", x.batchInfo(0, 5), 4);
            due.is("ahead of its second phase", x.batchInfo(0, 6) * 10 + x.batchInfo(0, 7), 14);
        }
    }

    /** "otherwise stopped": before its first tick, with a unit and without one. */
    private static void stopNotUnderWay(Due due) {
        BatchExecutive x = Scene.of("m4s0;", 0, 0);
        Scene.go(x);
        due.is("without a unit", x.stop(0), 4);
        Scene.go(x);
        Scene.go(x);
        x.run(1);
        due.is("the last one waits for the piece", x.waits(2), 3);
        due.is("with a unit", x.batchInfo(2, 8), 1);
        due.is("stop", x.stop(2), 4);
        due.is("its unit is released", x.unitInfo(1, 2), -4);
        due.is("the piece is still the other's", x.shared(0), 1);
    }

    /** "otherwise stopped": with all ticks of a phase done, and none of the next. */
    private static void stopBetweenPhases(Due due) {
        for (String text : new String[] {"m2;m2;", "m2;r2;"}) {
            BatchExecutive x = Scene.of(text, 0, 1);
            Scene.go(x);
            x.run(2);
            due.is("stop of " + text, x.stop(0), 4);
            due.is("its phase", x.batchInfo(0, 6), 1);
            due.is("the mixer is nobody's", x.unitInfo(0, 2), -4);
            due.is("and has to be cleaned", x.unitInfo(0, 4), 2);
        }
    }

    /** "To stop one that is held: it is stopped.": under way or not. */
    private static void stopOfAHeldOne(Due due) {
        BatchExecutive x = Scene.states();
        due.is("under way", x.stop(2), 4);
        due.is("its event", x.event(0, 1) * 10 + x.event(0, 2), 24);
        x.start(0);
        x.hold(0);
        due.is("not under way", x.stop(0), 4);
    }

    /** "To stop one that is held: it is stopped.": also if it was stopping. */
    private static void stopOfAHeldOneThatWasStopping(Due due) {
        BatchExecutive x = Scene.states();
        x.hold(3);
        due.is("stop", x.stop(3), 4);
        due.is("under way", x.batchInfo(3, 9), 1);
    }

    /** "What a batch has is released when it is stopped": the unit, broken or not, and the piece. */
    private static void stopReleasesAll(Due due) {
        BatchExecutive x = Scene.of("m2s1;m2;", 0);
        x.setCleaning(30);
        Scene.go(x);
        x.run(1);
        x.stop(0);
        due.is("stopping, it has its piece", x.shared(1), 0);
        due.is("and its unit", x.unitInfo(0, 2), 0);
        x.run(1);
        due.is("stopped, it has no piece", x.shared(1), -4);
        due.is("and no unit", x.batchInfo(0, 8), -4);
        due.is("that unit is nobody's", x.unitInfo(0, 2), -4);
        due.is("and has to be cleaned", x.unitInfo(0, 4), 30);
        x = Scene.states();
        x.fail(1);
        x.stop(2);
        due.is("a broken unit is released too", x.unitInfo(1, 2), -4);
        due.is("and has to be cleaned too", x.unitInfo(1, 4), 2);
        due.is("and is broken still", x.unitInfo(1, 3), 1);
    }

    /** "NOT_POSSIBLE if it is at an end." */
    private static void abortInEveryState(Due due) {
        Scene.inStates(due, "abort", (x, batch) -> x.abort(batch), 1, 1, 1, 1, -2, -2, -2);
        Scene.inStates(due, "state behind abort", (x, batch) -> {
            x.abort(batch);
            return x.batchInfo(batch, 5);
        }, 5, 5, 5, 5, 4, 5, 6);
    }

    /** "If there is no ... batch ... with a certain number, this is INVALID_ARGUMENT." */
    private static void abortOfNone(Due due) {
        due.is("abort where there is none", new BatchExecutive().abort(0), -1);
        Scene.noneBut(due, "abort", Scene.states(), 7, (x, batch) -> x.abort(batch));
    }

    /** "Returns how many batches are aborted by this": those that were aborted before do not count. */
    private static void abortReturnsHowMany(Due due) {
        BatchExecutive x = Scene.of("m1;");
        x.batch(0, 1, 0, -1);
        x.batch(0, 1, 0, 0);
        x.batch(0, 1, 0, 0);
        due.is("a last one", x.abort(1), 1);
        due.is("the others", x.abort(0), 2);
        due.is("all", x.count(9), 3);
    }

    /** "and then all that have it before them ... too, and so on": a chain of all twelve. */
    private static void abortOfAllTwelve(Due due) {
        BatchExecutive x = Scene.of("m1;");
        for (int batch = 0; batch < 12; batch++) {
            x.batch(0, 1, 0, batch - 1);
        }
        due.is("from the first one on", x.abort(0), 12);
        for (int index = 0; index < 12; index++) {
            due.is("event " + index, x.event(index, 1) * 10 + x.event(index, 2), (11 - index) * 10 + 5);
        }
        x.undo();
        due.is("from the last but one on", x.abort(10), 2);
        due.is("the one before is as it was", x.batchInfo(9, 5), 0);
    }

    /** "all that have it before them": not those without one, or behind others. */
    private static void abortOfThoseThatFollow(Due due) {
        BatchExecutive x = Scene.of("m1;");
        int[] befores = {-1, -1, 1, 0, 2, 3};
        for (int before : befores) {
            x.batch(0, 1, 0, before);
        }
        due.is("abort", x.abort(1), 3);
        int[] states = {0, 5, 5, 0, 5, 0};
        for (int batch = 0; batch < 6; batch++) {
            due.is("state of " + batch, x.batchInfo(batch, 5), states[batch]);
        }
    }

    /** "the one that was named comes first, then the others by ascending numbers": not branch by branch. */
    private static void abortOfBranches(Due due) {
        BatchExecutive x = Scene.of("m1;");
        int[] befores = {-1, 0, 0, 2, 1, 3};
        for (int before : befores) {
            x.batch(0, 1, 0, before);
        }
        x.run(3);
        due.is("abort", x.abort(0), 6);
        for (int batch = 0; batch < 6; batch++) {
            due.is("event of " + batch, x.event(5 - batch, 1), batch);
            due.is("its tick", x.event(5 - batch, 0), 3);
        }
    }

    /** "if they are not at an end": one at an end stays as it is, and nothing goes on behind it. */
    private static void abortLeavesEnds(Due due) {
        BatchExecutive x = Scene.of("m1;");
        for (int batch = 0; batch < 4; batch++) {
            x.batch(0, 1, 0, batch - 1);
        }
        x.start(1);
        x.stop(1);
        due.is("abort", x.abort(0), 1);
        int[] states = {5, 4, 0, 0};
        for (int batch = 0; batch < 4; batch++) {
            due.is("state of " + batch, x.batchInfo(batch, 5), states[batch]);
        }
        due.is("those behind it, by a command of their own", x.abort(2), 2);
    }

    /** "What a batch has is released when it is ... aborted." */
    private static void abortReleasesAll(Due due) {
        BatchExecutive x = Scene.of("m4s2;", 0, 0);
        x.setCleaning(7);
        Scene.go(x);
        x.run(1);
        x.abort(0);
        due.is("its piece", x.shared(2), -4);
        due.is("its unit", x.batchInfo(0, 8), -4);
        due.is("the unit's batch", x.unitInfo(0, 2), -4);
        due.is("to be cleaned", x.unitInfo(0, 4), 7);
        due.is("the other unit is as clean as before", x.unitInfo(1, 4), 0);
        x = Scene.states();
        x.abort(2);
        due.is("the unit of a held one", x.unitInfo(1, 2), -4);
        x.abort(3);
        due.is("the unit of a stopping one", x.unitInfo(2, 2), -4);
        due.is("to be cleaned too", x.unitInfo(2, 4), 2);
    }

    /** "What a batch has is released": one that waits for the one before it has nothing to release. */
    private static void abortOfOneWithoutAnything(Due due) {
        BatchExecutive x = Scene.of("m4;", 0, 0);
        Scene.go(x);
        Scene.go(x, 0, 0);
        x.run(1);
        due.is("the follower has no unit", x.batchInfo(1, 8), -4);
        due.is("both", x.abort(0), 2);
        due.is("one unit to be cleaned", x.unitInfo(0, 4) * 10 + x.unitInfo(1, 4), 20);
    }

    /** "The states 4, 5 and 6 are ends.": no command and no tick leads out of them. */
    private static void endsAreEnds(Due due) {
        for (int end = 4; end <= 6; end++) {
            BatchExecutive x = Scene.states();
            due.is("start", x.start(end), -2);
            due.is("hold", x.hold(end), -2);
            due.is("restart", x.restart(end), -2);
            due.is("stop", x.stop(end), -2);
            due.is("abort", x.abort(end), -2);
            x.run(500);
            due.is("its state", x.batchInfo(end, 5), end);
        }
    }
}
