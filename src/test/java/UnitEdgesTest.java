/**
 * "Units and shared equipment" and promises 2 to 7, edge by edge: each sentence of the document that
 * names an edge stands above its own test.
 */
public final class UnitEdgesTest {
    public static void main(String[] args) {
        Due due = new Due("UnitEdgesTest");
        atMostEightUnits(due);
        kinds(due);
        capacities(due);
        freeAtFirst(due);
        freeIfNoBatchHasIt(due);
        freeIfNotBroken(due);
        freeIfClean(due);
        threePieces(due);
        failReturnsTheBatch(due);
        failOfAStoppingOne(due);
        failWithoutBatch(due);
        failWithAHeldOne(due);
        failOfNoUnit(due);
        failOfABrokenOne(due);
        brokenUntilRepaired(due);
        repairCounts(due);
        repairOfNoUnit(due);
        repairOfAWholeOne(due);
        infoOfNoUnit(due);
        infoOfNothing(due);
        infoOfTheBatch(due);
        infoOfTheTicksWorked(due);
        sharedOutOfRange(due);
        sharedByTheLowestBatch(due);
        cleaningOutOfRange(due);
        cleaningReturnsThePrevious(due);
        due.end();
    }

    /** "There are at most 8 units, numbered from 0." "LIMIT_REACHED if there are 8." */
    private static void atMostEightUnits(Due due) {
        BatchExecutive x = new BatchExecutive();
        for (int number = 0; number < 8; number++) {
            due.is("unit " + number, x.unit(number % 4, 100 + number), number);
        }
        due.is("the last one is there", x.unitInfo(7, 1), 107);
        due.is("a ninth", x.unit(0, 1), -3);
        due.is("it is not there", x.unitInfo(8, 1), -1);
        due.is("there are eight", x.count(0), 8);
        due.is("undo makes room", x.undo(), 3);
        due.is("for one more", x.unit(3, 9), 7);
        due.is("which is another one", x.unitInfo(7, 1), 9);
        due.is("and no more", x.unit(3, 9), -3);
    }

    /** "A unit has a kind (0 mixer, 1 reactor, 2 filter, 3 filler)"; "kind: 0 to 3". */
    private static void kinds(Due due) {
        Scene.range(due, "unit's kind", 0, 3, (x, kind) -> x.unit(kind, 5));
        BatchExecutive x = new BatchExecutive();
        for (int kind = 0; kind <= 3; kind++) {
            due.is("its kind", x.unitInfo(x.unit(kind, 5), 0), kind);
        }
    }

    /** "a capacity (1 to 10000)"; "capacity: 1 to 10000". */
    private static void capacities(Due due) {
        Scene.range(due, "unit's capacity", 1, 10000, (x, capacity) -> x.unit(0, capacity));
        BatchExecutive x = new BatchExecutive();
        due.is("the least", x.unitInfo(x.unit(0, 1), 1), 1);
        due.is("the greatest", x.unitInfo(x.unit(0, 10000), 1), 10000);
    }

    /** "Adds a free unit." Also where undo took back one that was not free. */
    private static void freeAtFirst(Due due) {
        BatchExecutive x = Scene.of("m5;");
        Scene.go(x);
        x.unit(0, 10);
        x.run(2);
        x.fail(0);
        x.undo();
        x.undo();
        x.undo();
        due.is("no unit is left", x.count(0), 0);
        due.is("a new one", x.unit(1, 7), 0);
        int[] want = {1, 7, -4, 0, 0, 0, 1};
        for (int what = 0; what < want.length; what++) {
            due.is("unitInfo(0, " + what + ") of a new one", x.unitInfo(0, what), want[what]);
        }
    }

    /** "A unit is free if no batch has it": one of a batch is not, be it whole and clean. */
    private static void freeIfNoBatchHasIt(Due due) {
        BatchExecutive x = Scene.of("m2;", 0, 0);
        Scene.go(x);
        due.is("free before", x.unitInfo(0, 6), 1);
        x.run(1);
        due.is("whole", x.unitInfo(0, 3), 0);
        due.is("clean", x.unitInfo(0, 4), 0);
        due.is("taken", x.unitInfo(0, 6), 0);
        due.is("the other is free", x.unitInfo(1, 6), 1);
        due.is("one is free", x.count(2), 1);
        x.hold(0);
        due.is("one of a held batch is not free", x.unitInfo(0, 6), 0);
    }

    /** "A unit is free if ... it is not broken": a broken one is not, be it clean and nobody's. */
    private static void freeIfNotBroken(Due due) {
        BatchExecutive x = Scene.of("m2;", 0);
        x.fail(0);
        due.is("nobody's", x.unitInfo(0, 2), -4);
        due.is("clean", x.unitInfo(0, 4), 0);
        due.is("broken", x.unitInfo(0, 6), 0);
        due.is("none is free", x.count(2), 0);
        x.repair(0);
        due.is("repaired", x.unitInfo(0, 6), 1);
    }

    /** "A unit is free if ... no ticks of cleaning are left": not with the last tick left. */
    private static void freeIfClean(Due due) {
        BatchExecutive x = Scene.of("m1;", 0);
        Scene.go(x);
        x.run(1);
        int[] left = {2, 1, 0, 0};
        for (int tick = 0; tick < left.length; tick++) {
            due.is("left behind " + tick + " ticks", x.unitInfo(0, 4), left[tick]);
            due.is("free behind " + tick + " ticks", x.unitInfo(0, 6), left[tick] == 0 ? 1 : 0);
            due.is("free ones behind " + tick + " ticks", x.count(2), left[tick] == 0 ? 1 : 0);
            x.run(1);
        }
    }

    /** "There are 3 pieces of shared equipment, 0 to 2; each is free, or one batch has it." */
    private static void threePieces(Due due) {
        BatchExecutive x = Scene.of("m3s0;", 0, 0, 0, 0);
        Due.recipe(x, 1, "m3s1;");
        Due.recipe(x, 2, "m3s2;");
        due.is("all are free", x.count(17), 3);
        for (int piece = 0; piece <= 2; piece++) {
            due.is("free", x.shared(piece), -4);
            x.start(x.batch(piece, 10, 5, -1));
        }
        int fourth = Scene.go(x);
        x.run(1);
        for (int piece = 0; piece <= 2; piece++) {
            due.is("whose is " + piece, x.shared(piece), piece);
        }
        due.is("none is free", x.count(17), 0);
        due.is("the fourth waits", x.waits(fourth), 3);
        x.run(2);
        due.is("one batch had it, now the next one has", x.shared(0), fourth);
        due.is("the others are free", x.count(17), 2);
    }

    /** "Returns the batch that is held by it". */
    private static void failReturnsTheBatch(Due due) {
        BatchExecutive x = Scene.of("m9;", 1, 0, 0);
        x.batch(0, 10, 0, -1);
        Scene.go(x);
        Scene.go(x);
        x.run(1);
        due.is("the batch of unit 2", x.fail(2), 2);
        due.is("it is held", x.batchInfo(2, 5), 2);
        due.is("no other is held", x.count(6), 1);
        due.is("the batch of unit 1", x.fail(1), 1);
    }

    /** "a batch that has it and is running or stopping is held". */
    private static void failOfAStoppingOne(Due due) {
        BatchExecutive x = Scene.states();
        due.is("the unit of the stopping one", x.batchInfo(3, 8), 2);
        due.is("fail", x.fail(2), 3);
        due.is("held", x.batchInfo(3, 5), 2);
        due.is("its event", x.event(0, 1) * 10 + x.event(0, 2), 32);
        due.is("it keeps the unit", x.batchInfo(3, 8), 2);
    }

    /** "NOT_FOUND (the unit fails all the same, and this is a change) if there is none". */
    private static void failWithoutBatch(Due due) {
        BatchExecutive x = new BatchExecutive();
        x.unit(0, 5);
        due.is("fail", x.fail(0), -4);
        due.is("broken", x.unitInfo(0, 3), 1);
        due.is("a change", x.count(14), 2);
        due.is("no event", x.count(13), 0);
        due.is("undo", x.undo(), 1);
        due.is("whole", x.unitInfo(0, 3), 0);
    }

    /** "NOT_FOUND (the unit fails all the same, and this is a change) if there is ... one that is held already". */
    private static void failWithAHeldOne(Due due) {
        BatchExecutive x = Scene.states();
        int events = x.count(13);
        due.is("fail", x.fail(1), -4);
        due.is("broken", x.unitInfo(1, 3), 1);
        due.is("held as before", x.batchInfo(2, 5), 2);
        due.is("no event", x.count(13), events);
        due.is("a change", x.undo(), 3);
        due.is("whole", x.unitInfo(1, 3), 0);
        due.is("held still", x.batchInfo(2, 5), 2);
    }

    /** "If there is no unit ... with a certain number, this is INVALID_ARGUMENT." */
    private static void failOfNoUnit(Due due) {
        due.is("fail where there is none", new BatchExecutive().fail(0), -1);
        Scene.noneBut(due, "fail", Scene.states(), 4, (x, unit) -> x.fail(unit));
    }

    /** "NOT_POSSIBLE if it is broken." */
    private static void failOfABrokenOne(Due due) {
        BatchExecutive x = Scene.states();
        x.fail(0);
        due.is("fail again", x.fail(0), -2);
        due.is("broken still", x.unitInfo(0, 3), 1);
        due.is("broken ones", x.count(1), 1);
    }

    /** "When a unit fails, it is broken, until it is repaired". */
    private static void brokenUntilRepaired(Due due) {
        BatchExecutive x = Scene.of("m1;", 0);
        x.fail(0);
        Scene.go(x);
        x.run(500);
        due.is("broken after 500 ticks", x.unitInfo(0, 3), 1);
        due.is("nobody got it", x.waits(0), 2);
        x.repair(0);
        due.is("repaired", x.unitInfo(0, 3), 0);
        due.is("got at once", x.run(1), 1);
    }

    /** "Returns how many units are broken then". */
    private static void repairCounts(Due due) {
        BatchExecutive x = new BatchExecutive();
        for (int unit = 0; unit < 8; unit++) {
            x.unit(0, 5);
            x.fail(unit);
        }
        for (int unit = 7; unit >= 0; unit--) {
            due.is("repair of " + unit, x.repair(unit), unit);
        }
    }

    /** "If there is no unit ... with a certain number, this is INVALID_ARGUMENT." */
    private static void repairOfNoUnit(Due due) {
        due.is("repair where there is none", new BatchExecutive().repair(0), -1);
        Scene.noneBut(due, "repair", Scene.states(), 4, (x, unit) -> x.repair(unit));
    }

    /** "NOT_POSSIBLE if it is not broken." */
    private static void repairOfAWholeOne(Due due) {
        BatchExecutive x = Scene.of("m1;", 0, 0);
        x.fail(1);
        due.is("a whole one beside a broken one", x.repair(0), -2);
        due.is("the broken one", x.repair(1), 0);
        due.is("again", x.repair(1), -2);
    }

    /** "INVALID_ARGUMENT if an argument is out of range": the unit. */
    private static void infoOfNoUnit(Due due) {
        due.is("unitInfo where there is none", new BatchExecutive().unitInfo(0, 0), -1);
        for (int what = 0; what <= 6; what++) {
            int asked = what;
            Scene.noneBut(due, "unitInfo " + what, Scene.states(), 4, (x, unit) -> x.unitInfo(unit, asked));
        }
    }

    /** "INVALID_ARGUMENT if an argument is out of range": what. */
    private static void infoOfNothing(Due due) {
        Scene.range(due, "unitInfo's what", 0, 6, (x, what) -> x.unitInfo(x.unit(0, 5), what));
    }

    /** "NOT_FOUND for 2 if no batch has it", and batch 0 is one. */
    private static void infoOfTheBatch(Due due) {
        BatchExecutive x = Scene.of("m2;", 0, 0);
        Scene.go(x);
        due.is("nobody's", x.unitInfo(0, 2), -4);
        x.run(1);
        due.is("that of batch 0", x.unitInfo(0, 2), 0);
        due.is("nobody's still", x.unitInfo(1, 2), -4);
        x.run(1);
        due.is("released", x.unitInfo(0, 2), -4);
        due.is("that of a held one", Scene.states().unitInfo(1, 2), 2);
    }

    /** "5: ticks that it worked": only those in which a phase was worked on, of all its batches. */
    private static void infoOfTheTicksWorked(Due due) {
        BatchExecutive x = Scene.of("m2;", 0);
        Scene.go(x);
        Scene.go(x);
        due.is("none at first", x.unitInfo(0, 5), 0);
        int[] worked = {1, 2, 2, 3, 4, 4, 4};
        for (int tick = 0; tick < worked.length; tick++) {
            x.run(1);
            due.is("behind tick " + tick, x.unitInfo(0, 5), worked[tick]);
        }
    }

    /** "piece: 0 to 2"; "INVALID_ARGUMENT if piece is out of range; NOT_FOUND if it is free." */
    private static void sharedOutOfRange(Due due) {
        Scene.range(due, "shared", 0, 2, (x, piece) -> x.shared(piece));
        for (int piece = 0; piece <= 2; piece++) {
            due.is("a free one", new BatchExecutive().shared(piece), -4);
        }
    }

    /** "Returns the batch": also batch 0. */
    private static void sharedByTheLowestBatch(Due due) {
        BatchExecutive x = Scene.of("m2s2;", 0);
        Scene.go(x);
        x.run(1);
        due.is("batch 0", x.shared(2), 0);
        x.run(1);
        due.is("free again", x.shared(2), -4);
    }

    /** "ticks: 0 to 30"; "INVALID_ARGUMENT if ticks is out of range." */
    private static void cleaningOutOfRange(Due due) {
        Scene.range(due, "setCleaning", 0, 30, (x, ticks) -> x.setCleaning(ticks));
    }

    /** "Returns the previous ticks"; "at first 2". */
    private static void cleaningReturnsThePrevious(Due due) {
        BatchExecutive x = new BatchExecutive();
        due.is("at first", x.setCleaning(30), 2);
        due.is("refused", x.setCleaning(31), -1);
        due.is("the greatest", x.setCleaning(0), 30);
        due.is("the least", x.setCleaning(0), 0);
        due.is("the same again", x.setCleaning(7), 0);
        due.is("as counted", x.count(12), 7);
    }
}
