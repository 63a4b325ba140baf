/** Promises 13 to 16: hold, restart, stop, abort. */
public final class CommandsTest {
    public static void main(String[] args) {
        Due due = new Due("CommandsTest");
        hold(due);
        restart(due);
        restartWithTheMark(due);
        restartOfStopping(due);
        stop(due);
        stopAtTheLastPhase(due);
        stopWithAnotherUnitNext(due);
        abort(due);
        abortSkipsEnds(due);
        due.end();
    }

    /** A mixer, and one batch of the text that is started. */
    private static BatchExecutive started(String text) {
        BatchExecutive x = Due.withText(text);
        x.unit(0, 9);
        x.recipe(0);
        x.batch(0, 9, 0, -1);
        x.start(0);
        return x;
    }

    private static void hold(Due due) {
        BatchExecutive x = started("m5s0;");
        x.batch(0, 9, 0, -1);
        due.is("hold of none", x.hold(2), -1);
        due.is("hold of -1", x.hold(-1), -1);
        due.is("hold of a ready one", x.hold(1), -2);
        x.start(1);
        x.run(1);
        due.is("hold", x.hold(0), 1);
        due.is("its equipment is released", x.shared(0), -4);
        due.is("its unit stays", x.unitInfo(0, 2), 0);
        due.is("its ticks stay", x.batchInfo(0, 7), 4);
        due.is("event", x.event(0, 2), 2);
        due.is("event's tick", x.event(0, 0), 1);
        due.is("event's batch", x.event(0, 1), 0);
        due.is("hold again", x.hold(0), -2);
        due.is("undo of the hold", x.undo(), 3);
        due.is("it runs", x.batchInfo(0, 5), 1);
        due.is("with its equipment", x.shared(0), 0);
        due.is("hold once more", x.hold(0), 1);
        due.is("hold of the other", x.hold(1), 2);
        due.is("ticks for nothing", x.run(9), 0);
        due.is("nothing was done", x.unitInfo(0, 5), 1);
        x.abort(0);
        due.is("hold of an aborted one", x.hold(0), -2);
    }

    private static void restart(Due due) {
        BatchExecutive x = started("m5s0;");
        due.is("restart of none", x.restart(1), -1);
        due.is("restart of -1", x.restart(-1), -1);
        due.is("restart of a running one", x.restart(0), -2);
        x.hold(0);
        due.is("restart without a unit", x.restart(0), 5);
        due.is("event", x.event(0, 2), 3);
        x.run(2);
        x.hold(0);
        due.is("without the mark it goes on", x.restart(0), 3);
        due.is("running", x.batchInfo(0, 5), 1);
        due.is("its equipment comes with the next tick", x.shared(0), -4);
        x.run(1);
        due.is("here", x.shared(0), 0);
        due.is("no second unit was got", x.event(0, 2), 3);
        due.is("undo of the tick", x.undo(), 3);
        due.is("undo of the restart", x.undo(), 2);
        due.is("held", x.batchInfo(0, 5), 2);
        x.restart(0);
        x.run(1);
        due.is("to its end", x.run(2), 1);
        due.is("restart of a complete one", x.restart(0), -2);
    }

    private static void restartWithTheMark(Due due) {
        BatchExecutive x = started("m5a;m3;");
        x.run(4);
        x.hold(0);
        due.is("from its first tick", x.restart(0), 5);
        due.is("not under way", x.batchInfo(0, 9), 0);
        due.is("the unit worked all the same", x.unitInfo(0, 5), 4);
        due.is("stop finds nothing under way", x.stop(0), 4);
        x.undo();
        x.run(5);
        x.run(1);
        x.hold(0);
        due.is("the next phase has no mark", x.restart(0), 2);
    }

    private static void restartOfStopping(Due due) {
        BatchExecutive x = started("m3;m3;");
        x.run(1);
        due.is("stopping", x.stop(0), 3);
        due.is("held", x.hold(0), 1);
        due.is("restart", x.restart(0), 2);
        due.is("running, not stopping", x.batchInfo(0, 5), 1);
        due.is("so it is complete at last", x.run(5), 1);
    }

    private static void stop(Due due) {
        BatchExecutive x = started("m3s1;m3;");
        due.is("stop of none", x.stop(1), -1);
        due.is("stop of -1", x.stop(-1), -1);
        x.batch(0, 9, 0, -1);
        due.is("stop of a ready one", x.stop(1), -2);
        x.run(1);
        due.is("stop under way", x.stop(0), 3);
        due.is("no event yet", x.event(0, 2), 0);
        due.is("stop of a stopping one", x.stop(0), -2);
        due.is("it works on", x.waits(0), 0);
        due.is("it keeps its equipment", x.shared(1), 0);
        x.run(1);
        due.is("stopping still", x.batchInfo(0, 5), 3);
        x.run(1);
        due.is("stopped behind the phase", x.batchInfo(0, 5), 4);
        due.is("its phase", x.batchInfo(0, 6), 1);
        due.is("its ticks", x.batchInfo(0, 7), 3);
        due.is("its unit is released", x.unitInfo(0, 2), -4);
        due.is("and has to be cleaned", x.unitInfo(0, 4), 2);
        due.is("latest event", x.event(0, 2), 4);
        due.is("the one ahead", x.event(1, 2), 1);
        due.is("both in the tick", x.event(0, 0) + 10 * x.event(1, 0), 22);
        due.is("stop of a stopped one", x.stop(0), -2);
        x.start(1);
        x.run(3);
        x.hold(1);
        due.is("stop of a held one under way", x.stop(1), 4);
        due.is("it was under way", x.batchInfo(1, 9), 1);
    }

    private static void stopAtTheLastPhase(Due due) {
        BatchExecutive x = started("m2;");
        x.run(1);
        x.stop(0);
        due.is("a stopping one is complete by its last phase", x.run(1), 1);
        due.is("complete", x.batchInfo(0, 5), 6);
        due.is("events", x.event(0, 2) * 10 + x.event(1, 2), 61);
    }

    private static void stopWithAnotherUnitNext(Due due) {
        BatchExecutive x = started("m2;r2;");
        x.run(2);
        due.is("between two phases it is stopped at once", x.stop(0), 4);
        due.is("event", x.event(0, 2), 4);
        due.is("its tick", x.event(0, 0), 2);
        due.is("its next phase", x.batchInfo(0, 6), 1);
        due.is("none under way", x.batchInfo(0, 9), 0);
    }

    private static void abort(Due due) {
        BatchExecutive x = started("m3s2;");
        due.is("abort of none", x.abort(1), -1);
        due.is("abort of -1", x.abort(-1), -1);
        x.batch(0, 9, 0, -1);
        x.batch(0, 9, 0, 0);
        x.batch(0, 9, 0, 1);
        x.batch(0, 9, 0, 2);
        x.batch(0, 9, 0, 0);
        x.start(5);
        x.run(1);
        x.stop(0);
        due.is("a stopping one, and those that follow", x.abort(0), 4);
        int[] states = {5, 0, 5, 0, 5, 5};
        for (int number = 0; number < 6; number++) {
            due.is("state of " + number, x.batchInfo(number, 5), states[number]);
        }
        int[] order = {5, 4, 2, 0};
        for (int index = 0; index < 4; index++) {
            due.is("event " + index, x.event(index, 1), order[index]);
            due.is("aborted " + index, x.event(index, 2), 5);
            due.is("tick " + index, x.event(index, 0), 1);
        }
        due.is("its unit is released", x.unitInfo(0, 2), -4);
        due.is("and has to be cleaned", x.unitInfo(0, 4), 2);
        due.is("its equipment is released", x.shared(2), -4);
        due.is("it was under way", x.batchInfo(0, 9), 1);
        due.is("abort again", x.abort(0), -2);
        due.is("abort of a ready one and its next", x.abort(1), 2);
        due.is("undo", x.undo(), 3);
        due.is("they are ready again", x.count(4), 2);
        due.is("and the others aborted", x.count(9), 4);
    }

    /** One at an end is not aborted, and hands nothing on. */
    private static void abortSkipsEnds(Due due) {
        BatchExecutive x = started("m3;");
        x.batch(0, 9, 0, 0);
        x.batch(0, 9, 0, 1);
        x.start(1);
        due.is("stop of one that waits", x.stop(1), 4);
        due.is("abort", x.abort(0), 1);
        due.is("the stopped one stays so", x.batchInfo(1, 5), 4);
        due.is("no event of it", x.event(0, 1) * 10 + x.event(1, 1), 1);
        due.is("the one behind it is left", x.batchInfo(2, 5), 0);
        due.is("it can be aborted itself", x.abort(2), 1);
        x = started("m3;");
        x.batch(0, 9, 0, 0);
        due.is("the very next one follows", x.abort(0), 2);
        x = started("m1;");
        x.run(1);
        due.is("abort of a complete one", x.abort(0), -2);
        x = started("m1;");
        x.stop(0);
        due.is("abort of a stopped one", x.abort(0), -2);
    }
}
