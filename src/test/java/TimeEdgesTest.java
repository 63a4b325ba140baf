/** "Journal", the history of "Changes and errors" and promises 23 to 25, edge by edge. */
public final class TimeEdgesTest {
    public static void main(String[] args) {
        Due due = new Due("TimeEdgesTest");
        countOutOfRange(due);
        countUnits(due);
        countFreeUnits(due);
        countBatches(due);
        countStates(due);
        countText(due);
        countWork(due);
        countPieces(due);
        countEventsAndStates(due);
        journalIsEmptyAtFirst(due);
        journalAtItsEdge(due);
        journalGoesRoundTwice(due);
        journalOfOneLongRun(due);
        eventOutOfRange(due);
        eventBehindTheLast(due);
        eventAheadOfTheTick(due);
        eventsOfEachKind(due);
        eventsThatAreNone(due);
        phaseEndsThenComplete(due);
        phaseEndsThenStopped(due);
        undoOfNothing(due);
        historyAtItsEdge(due);
        oldestIsDropped(due);
        undoReturnsWhatIsLeft(due);
        undoIsNoChange(due);
        undoLeavesTheText(due);
        undoOfTheJournal(due);
        undoOfTheRing(due);
        changesBehindAnUndo(due);
        due.end();
    }

    /** "INVALID_ARGUMENT if what is out of range": 0 to 17. */
    private static void countOutOfRange(Due due) {
        Scene.range(due, "count", 0, 17, (x, what) -> x.count(what));
    }

    /** "0: units; 1: broken units": from none to all. */
    private static void countUnits(Due due) {
        BatchExecutive x = new BatchExecutive();
        for (int units = 0; units <= 8; units++) {
            due.is("units", x.count(0), units);
            x.unit(0, 5);
        }
        for (int broken = 0; broken < 8; broken++) {
            due.is("broken units", x.count(1), broken);
            x.fail(7 - broken);
        }
        due.is("all are broken", x.count(1), 8);
    }

    /** "2: free units": neither broken ones nor taken ones nor those that have to be cleaned. */
    private static void countFreeUnits(Due due) {
        BatchExecutive x = Scene.of("m1;", 0, 0, 0, 0);
        Due.recipe(x, 1, "m9;");
        due.is("all", x.count(2), 4);
        x.fail(3);
        due.is("but one that is broken", x.count(2), 3);
        x.start(x.batch(1, 10, 0, -1));
        x.run(1);
        due.is("and one that is taken", x.count(2), 2);
        Scene.go(x);
        x.run(1);
        due.is("and one that has to be cleaned", x.count(2), 1);
        x.run(1);
        due.is("still", x.count(2), 1);
        x.run(1);
        due.is("clean", x.count(2), 2);
    }

    /** "3: batches": from none to all. */
    private static void countBatches(Due due) {
        BatchExecutive x = Scene.of("m1;");
        for (int batches = 0; batches <= 12; batches++) {
            due.is("batches", x.count(3), batches);
            due.is("ready ones", x.count(4), batches);
            x.batch(0, 1, 0, -1);
        }
        due.is("no more", x.count(3), 12);
    }

    /** "4 to 10: batches with the state 0 to 6". */
    private static void countStates(Due due) {
        BatchExecutive x = Scene.states();
        for (int state = 0; state <= 6; state++) {
            due.is("with the state " + state, x.count(4 + state), 1);
        }
        x.start(0);
        int[] want = {0, 2, 1, 1, 1, 1, 1};
        for (int state = 0; state <= 6; state++) {
            due.is("then with the state " + state, x.count(4 + state), want[state]);
        }
    }

    /** "15: the length of the text": from none to 100. */
    private static void countText(Due due) {
        BatchExecutive x = new BatchExecutive();
        for (int length = 0; length <= 100; length++) {
            due.is("length", x.count(15), length);
            x.type(' ');
        }
        due.is("no more", x.count(15), 100);
        x.clearText();
        due.is("emptied", x.count(15), 0);
    }

    /** "16: ticks that all units worked together": of units that are broken or nobody's, too. */
    private static void countWork(Due due) {
        BatchExecutive x = Scene.of("m2;r3;", 0, 1, 0);
        due.is("none", x.count(16), 0);
        Scene.go(x);
        Scene.go(x);
        int[] want = {2, 4, 5, 6, 7, 7};
        for (int tick = 0; tick < want.length; tick++) {
            x.run(1);
            due.is("behind tick " + tick, x.count(16), want[tick]);
        }
        x.fail(1);
        due.is("with a broken one", x.count(16), 7);
    }

    /** "17: pieces of shared equipment that are free": from all to none. */
    private static void countPieces(Due due) {
        BatchExecutive x = Scene.of("m9s2;", 0, 0, 0);
        Due.recipe(x, 1, "m9s0;");
        Due.recipe(x, 2, "m9s1;");
        for (int taken = 0; taken < 3; taken++) {
            due.is("free", x.count(17), 3 - taken);
            x.start(x.batch(taken, 10, 0, -1));
            x.run(1);
        }
        due.is("none is free", x.count(17), 0);
    }

    /** "13: events in the journal; 14: states in the history": from none to 40 and to 4. */
    private static void countEventsAndStates(Due due) {
        BatchExecutive x = Scene.of("m9;");
        Scene.go(x);
        due.is("three states", x.count(14), 3);
        for (int events = 0; events < 50; events++) {
            due.is("events", x.count(13), Math.min(events, 40));
            due.is("states", x.count(14), Math.min(events + 3, 4));
            holdOrRestart(x, events);
        }
    }

    /** The event of the number, counted from the first one on: a hold or a restart in turn. */
    private static void holdOrRestart(BatchExecutive x, int number) {
        if (number % 2 == 0) {
            x.hold(0);
        } else {
            x.restart(0);
        }
    }

    /** "The journal has the latest 40 events": none at first. */
    private static void journalIsEmptyAtFirst(Due due) {
        BatchExecutive x = Scene.of("m9;", 0);
        for (int what = 0; what <= 2; what++) {
            due.is("event(0, " + what + ")", x.event(0, what), -4);
        }
        x.run(9);
        due.is("ticks are no events", x.event(0, 0), -4);
    }

    /** "The journal has the latest 40 events": behind 39, 40, 41 and 42 of them. */
    private static void journalAtItsEdge(Due due) {
        BatchExecutive x = Scene.of("m9;");
        Scene.go(x);
        for (int number = 0; number < 42; number++) {
            holdOrRestart(x, number);
            x.run(1);
            int events = number + 1;
            if (events >= 39) {
                int kept = Math.min(events, 40);
                due.is("kept of " + events, x.count(13), kept);
                due.is("the latest of " + events, x.event(0, 0), number);
                due.is("the oldest of " + events, x.event(kept - 1, 0), events - kept);
                due.is("one behind it of " + events, x.event(kept, 0), -4);
            }
        }
    }

    /** The same: behind 90 events, each of the 40 is in its place. */
    private static void journalGoesRoundTwice(Due due) {
        BatchExecutive x = Scene.of("m9;");
        Scene.go(x);
        for (int number = 0; number < 90; number++) {
            holdOrRestart(x, number);
            x.run(1);
        }
        for (int index = 0; index < 40; index++) {
            due.is("tick of event " + index, x.event(index, 0), 89 - index);
            due.is("event " + index, x.event(index, 2), index % 2 == 0 ? 3 : 2);
        }
        due.is("event 40", x.event(40, 2), -4);
    }

    /** The same: more than 40 events of one call. */
    private static void journalOfOneLongRun(Due due) {
        BatchExecutive x = Scene.of("m1;m1;m1;m1;m1;m1;m1;m1;", 0);
        x.setCleaning(0);
        for (int batch = 0; batch < 6; batch++) {
            Scene.go(x);
        }
        due.is("all are complete", x.run(100), 6);
        due.is("60 events, 40 of them kept", x.count(13), 40);
        due.is("the oldest", x.event(39, 1) * 100 + x.event(39, 0) * 10 + x.event(39, 2), 200 + 140 + 0);
        due.is("the latest", x.event(0, 1) * 100 + x.event(0, 0) * 10 + x.event(0, 2), 500 + 420 + 6);
    }

    /** "INVALID_ARGUMENT if index is negative or what is out of range". */
    private static void eventOutOfRange(Due due) {
        for (BatchExecutive x : new BatchExecutive[] {new BatchExecutive(), Scene.states()}) {
            due.is("index -1", x.event(-1, 0), -1);
            due.is("the least index", x.event(Integer.MIN_VALUE, 0), -1);
            for (int what : new int[] {Integer.MIN_VALUE, -1, 3, Integer.MAX_VALUE}) {
                due.is("what " + what, x.event(0, what), -1);
                due.is("what " + what + " of too far back", x.event(99, what), -1);
            }
        }
        BatchExecutive x = Scene.states();
        due.is("what 0", x.event(0, 0), 1);
        due.is("what 2", x.event(0, 2), 5);
    }

    /** "NOT_FOUND if there are not so many." */
    private static void eventBehindTheLast(Due due) {
        BatchExecutive x = Scene.states();
        int events = x.count(13);
        due.is("four units got, an end, complete, held, stopped, aborted", events, 9);
        for (int what = 0; what <= 2; what++) {
            due.holds("the oldest", x.event(8, what) >= 0);
            due.is("one more", x.event(9, what), -4);
            due.is("event 40", x.event(40, what), -4);
            due.is("the greatest index", x.event(Integer.MAX_VALUE, what), -4);
        }
    }

    /** "(Ticks that had gone by: ahead of the tick, for what happens in a tick.)" */
    private static void eventAheadOfTheTick(Due due) {
        BatchExecutive x = Scene.of("m1;", 0);
        Scene.go(x);
        x.run(1);
        due.is("in the first tick", x.event(0, 0), 0);
        x.run(4);
        Scene.go(x);
        x.hold(1);
        due.is("between ticks", x.event(0, 0), 5);
        x.restart(1);
        x.run(1);
        due.is("in the next tick", x.event(0, 0), 5);
        due.is("ticks by then", x.count(11), 6);
    }

    /** "what it was: 0 it gets a unit, 1 a phase ends, 2 held, 3 restarted, 4 stopped, 5 aborted, 6 complete." */
    private static void eventsOfEachKind(Due due) {
        BatchExecutive x = Scene.of("m1;r1;", 0, 1);
        x.batch(0, 10, 0, -1);
        Scene.go(x);
        x.run(1);
        due.is("a unit got", x.event(1, 2), 0);
        due.is("a phase ends", x.event(0, 2), 1);
        x.hold(1);
        due.is("held", x.event(0, 2), 2);
        x.restart(1);
        due.is("restarted", x.event(0, 2), 3);
        x.run(1);
        due.is("complete", x.event(0, 2), 6);
        Scene.go(x);
        x.stop(2);
        due.is("stopped", x.event(0, 2), 4);
        x.abort(0);
        due.is("aborted", x.event(0, 2), 5);
        int[] batches = {0, 2, 1, 1, 1, 1, 1, 1, 1};
        for (int index = 0; index < batches.length; index++) {
            due.is("batch of event " + index, x.event(index, 1), batches[index]);
        }
    }

    /** What is not in that list is no event: starts, stopping, waiting, pieces, units that fail without a batch. */
    private static void eventsThatAreNone(Due due) {
        BatchExecutive x = Scene.of("m9s1;", 0, 0, 0);
        Scene.go(x);
        Scene.go(x);
        due.is("starts", x.count(13), 0);
        x.run(3);
        due.is("two units got, one piece got, one waits", x.count(13), 2);
        x.stop(0);
        due.is("stopping", x.count(13), 2);
        x.fail(2);
        x.repair(2);
        x.priority(0, 9);
        x.setCleaning(9);
        due.is("no batch's", x.count(13), 2);
    }

    /** "When a phase ends and the batch is complete ... by it, both are events, in this order." */
    private static void phaseEndsThenComplete(Due due) {
        BatchExecutive x = Scene.of("m1;", 0);
        Scene.go(x);
        x.run(1);
        due.is("first", x.event(1, 2), 1);
        due.is("then", x.event(0, 2), 6);
        due.is("both in one tick", x.event(0, 0) + x.event(1, 0), 0);
        due.is("no others", x.count(13), 3);
    }

    /** "When a phase ends and the batch is ... stopped by it, both are events, in this order." */
    private static void phaseEndsThenStopped(Due due) {
        BatchExecutive x = Scene.of("m2;m1;", 0);
        Scene.go(x);
        x.run(1);
        x.stop(0);
        x.run(1);
        due.is("first", x.event(1, 2), 1);
        due.is("then", x.event(0, 2), 4);
        due.is("both in one tick", x.event(0, 0) * 10 + x.event(1, 0), 11);
        due.is("no others", x.count(13), 3);
    }

    /** "NOT_POSSIBLE if it is empty." */
    private static void undoOfNothing(Due due) {
        BatchExecutive x = new BatchExecutive();
        due.is("undo of a new one", x.undo(), -2);
        x.type('m');
        due.is("typing is nothing to undo", x.undo(), -2);
        x.unit(0, 5);
        x.undo();
        due.is("undo of all is undone", x.undo(), -2);
        due.is("nothing is left", x.count(0), 0);
    }

    /** "A history of at most 4 states is kept". */
    private static void historyAtItsEdge(Due due) {
        BatchExecutive x = new BatchExecutive();
        for (int changes = 0; changes <= 6; changes++) {
            due.is("states behind " + changes, x.count(14), Math.min(changes, 4));
            x.setCleaning(10 + changes);
        }
    }

    /** "if there are 5 states then, the oldest one is dropped": behind 4, 5 and 6 changes. */
    private static void oldestIsDropped(Due due) {
        for (int changes = 4; changes <= 6; changes++) {
            BatchExecutive x = new BatchExecutive();
            for (int change = 1; change <= changes; change++) {
                x.setCleaning(10 + change);
            }
            for (int back = 1; back <= 4; back++) {
                x.undo();
                int change = changes - back;
                due.is(back + " back from " + changes, x.count(12), change == 0 ? 2 : 10 + change);
            }
            due.is("no further", x.undo(), -2);
            due.is("it stays there", x.count(12), changes == 4 ? 2 : 6 + changes);
        }
    }

    /** "Returns the number of states that are left in the history". */
    private static void undoReturnsWhatIsLeft(Due due) {
        BatchExecutive x = Scene.states();
        for (int left = 3; left >= 0; left--) {
            due.is("left", x.undo(), left);
            due.is("as counted", x.count(14), left);
        }
        due.is("none", x.undo(), -2);
    }

    /** "The changes are the calls of ..." undo is none of them: nothing undoes it. */
    private static void undoIsNoChange(Due due) {
        BatchExecutive x = new BatchExecutive();
        x.setCleaning(10);
        x.setCleaning(20);
        due.is("undo", x.undo(), 1);
        due.is("once", x.count(12), 10);
        due.is("undo again", x.undo(), 0);
        due.is("goes on back", x.count(12), 2);
    }

    /** "each change records everything before it but the text". */
    private static void undoLeavesTheText(Due due) {
        BatchExecutive x = Due.withText("m1");
        x.unit(0, 5);
        x.type(';');
        x.recipe(0);
        x.type('r');
        due.is("undo of the recipe", x.undo(), 1);
        due.is("what was typed before and behind it stays", x.count(15), 4);
        due.is("undo of the unit", x.undo(), 0);
        due.is("it stays", x.count(15), 4);
        due.is("its fault", x.fault(0), 4);
        x.unit(0, 5);
        x.clearText();
        x.undo();
        due.is("an emptied one stays empty", x.count(15), 0);
        due.is("its fault then", x.fault(0), 0);
    }

    /** "each change records everything before it": the journal too. */
    private static void undoOfTheJournal(Due due) {
        BatchExecutive x = Scene.states();
        due.is("latest", x.event(0, 1) * 10 + x.event(0, 2), 55);
        x.undo();
        due.is("without the abort", x.event(0, 1) * 10 + x.event(0, 2), 44);
        x.undo();
        due.is("without the stop", x.event(0, 1) * 10 + x.event(0, 2), 22);
        due.is("events", x.count(13), 7);
    }

    /** The same: a full journal gets back what was pushed out of it. */
    private static void undoOfTheRing(Due due) {
        BatchExecutive x = Scene.of("m9;", 0);
        Scene.go(x);
        Scene.go(x, 9, -1);
        for (int number = 0; number < 40; number++) {
            holdOrRestart(x, number);
        }
        x.run(9);
        due.is("they are those of the other batch", x.event(2, 1) + x.event(1, 1) + x.event(0, 1), 3);
        due.is("pushed out: two holds and a restart", x.event(39, 2), 3);
        due.is("in: a unit got, an end, complete", x.event(2, 2) * 100 + x.event(1, 2) * 10 + x.event(0, 2), 16);
        x.undo();
        for (int index = 0; index < 40; index++) {
            due.is("event " + index, x.event(index, 2), index % 2 == 0 ? 3 : 2);
            due.is("its tick", x.event(index, 0), 0);
            due.is("its batch", x.event(index, 1), 0);
        }
    }

    /** "Restores the latest state of the history, which is removed from it": new changes come in its place. */
    private static void changesBehindAnUndo(Due due) {
        BatchExecutive x = new BatchExecutive();
        for (int ticks = 11; ticks <= 15; ticks++) {
            x.setCleaning(ticks);
        }
        x.undo();
        x.undo();
        x.setCleaning(23);
        due.is("states", x.count(14), 3);
        x.setCleaning(24);
        x.setCleaning(25);
        due.is("states again", x.count(14), 4);
        int[] want = {24, 23, 13, 12};
        for (int back = 0; back < 4; back++) {
            x.undo();
            due.is("back", x.count(12), want[back]);
        }
        due.is("no further", x.undo(), -2);
    }
}
