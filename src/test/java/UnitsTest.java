/** Promises 2 to 7: unit, fail, repair, unitInfo, shared, setCleaning. */
public final class UnitsTest {
    public static void main(String[] args) {
        Due due = new Due("UnitsTest");
        unit(due);
        failWithoutBatch(due);
        failWithBatch(due);
        failOfStoppingAndHeld(due);
        repair(due);
        unitInfo(due);
        brokenUnitsAreNotTaken(due);
        cleaningOfBrokenUnits(due);
        shared(due);
        setCleaning(due);
        due.end();
    }

    private static void unit(Due due) {
        BatchExecutive x = new BatchExecutive();
        due.is("unit of no kind", x.unit(-1, 5), -1);
        due.is("unit of a fifth kind", x.unit(4, 5), -1);
        due.is("unit without capacity", x.unit(0, 0), -1);
        due.is("unit too large", x.unit(0, 10001), -1);
        due.is("unit of least int", x.unit(Integer.MIN_VALUE, Integer.MIN_VALUE), -1);
        due.is("refused units are no change", x.count(14), 0);
        due.is("lowest values", x.unit(0, 1), 0);
        due.is("highest values", x.unit(3, 10000), 1);
        due.is("it is free", x.unitInfo(1, 6), 1);
        for (int number = 2; number < 8; number++) {
            due.is("unit " + number, x.unit(number % 4, number), number);
        }
        due.is("ninth unit", x.unit(0, 1), -3);
        due.is("ninth unit with a wrong kind", x.unit(4, 1), -1);
        due.is("eight units", x.count(0), 8);
        due.is("kept states", x.count(14), 4);
    }

    private static void failWithoutBatch(Due due) {
        BatchExecutive x = new BatchExecutive();
        x.unit(0, 5);
        due.is("fail of no unit", x.fail(1), -1);
        due.is("fail of -1", x.fail(-1), -1);
        due.is("fail without a batch", x.fail(0), -4);
        due.is("it is broken all the same", x.unitInfo(0, 3), 1);
        due.is("and that is a change", x.count(14), 2);
        due.is("no event", x.count(13), 0);
        due.is("fail of a broken one", x.fail(0), -2);
        due.is("undo", x.undo(), 1);
        due.is("it is whole again", x.unitInfo(0, 3), 0);
    }

    private static void failWithBatch(Due due) {
        BatchExecutive x = new BatchExecutive();
        x.unit(0, 5);
        Due.recipe(x, 0, "m9s1;");
        x.batch(0, 5, 0, -1);
        x.start(0);
        x.run(3);
        due.is("it has the equipment", x.shared(1), 0);
        due.is("fail holds the batch", x.fail(0), 0);
        due.is("its state", x.batchInfo(0, 5), 2);
        due.is("its unit stays", x.batchInfo(0, 8), 0);
        due.is("its equipment does not", x.shared(1), -4);
        due.is("event", x.event(0, 2), 2);
        due.is("its tick", x.event(0, 0), 3);
        due.is("restart with a broken unit", x.restart(0), -2);
        due.is("ticks go by", x.run(5), 0);
        due.is("it does not work", x.batchInfo(0, 7), 6);
        due.is("repair", x.repair(0), 0);
        due.is("it stays held", x.batchInfo(0, 5), 2);
        due.is("restart", x.restart(0), 6);
        due.is("it goes on", x.run(6), 1);
    }

    private static void failOfStoppingAndHeld(Due due) {
        BatchExecutive x = new BatchExecutive();
        x.unit(0, 5);
        Due.recipe(x, 0, "m9;m1;");
        x.batch(0, 5, 0, -1);
        x.start(0);
        x.run(1);
        due.is("stop under way", x.stop(0), 3);
        due.is("fail holds a stopping one", x.fail(0), 0);
        due.is("held", x.batchInfo(0, 5), 2);
        x.repair(0);
        due.is("fail with one held already", x.fail(0), -4);
        due.is("no second event", x.count(13), 2);
        due.is("stop of it", x.stop(0), 4);
        due.is("the broken unit is released", x.unitInfo(0, 2), -4);
        due.is("but not free", x.unitInfo(0, 6), 0);
    }

    private static void repair(Due due) {
        BatchExecutive x = new BatchExecutive();
        x.unit(0, 5);
        x.unit(1, 5);
        due.is("repair of no unit", x.repair(2), -1);
        due.is("repair of -1", x.repair(-1), -1);
        due.is("repair of a whole one", x.repair(0), -2);
        x.fail(0);
        x.fail(1);
        due.is("broken ones", x.count(1), 2);
        due.is("free ones", x.count(2), 0);
        due.is("repair", x.repair(0), 1);
        due.is("it is free", x.unitInfo(0, 6), 1);
        due.is("repair the other", x.repair(1), 0);
        due.is("repair is a change", x.undo(), 3);
        due.is("undone", x.unitInfo(1, 3), 1);
    }

    private static void unitInfo(Due due) {
        BatchExecutive x = new BatchExecutive();
        x.unit(2, 77);
        Due.recipe(x, 0, "f3;");
        x.batch(0, 77, 0, -1);
        x.start(0);
        due.is("kind", x.unitInfo(0, 0), 2);
        due.is("capacity", x.unitInfo(0, 1), 77);
        due.is("no batch", x.unitInfo(0, 2), -4);
        due.is("no such unit", x.unitInfo(1, 0), -1);
        due.is("unit -1", x.unitInfo(-1, 0), -1);
        due.is("what -1", x.unitInfo(0, -1), -1);
        due.is("what 7", x.unitInfo(0, 7), -1);
        x.run(2);
        due.is("batch", x.unitInfo(0, 2), 0);
        due.is("not free", x.unitInfo(0, 6), 0);
        due.is("worked", x.unitInfo(0, 5), 2);
        due.is("nothing to clean", x.unitInfo(0, 4), 0);
        x.run(1);
        due.is("released", x.unitInfo(0, 2), -4);
        due.is("worked 3", x.unitInfo(0, 5), 3);
        due.is("to be cleaned", x.unitInfo(0, 4), 2);
        due.is("not free in cleaning", x.unitInfo(0, 6), 0);
        x.run(1);
        due.is("one tick left", x.unitInfo(0, 4), 1);
        x.run(1);
        due.is("clean", x.unitInfo(0, 4), 0);
        due.is("free", x.unitInfo(0, 6), 1);
    }

    private static void brokenUnitsAreNotTaken(Due due) {
        BatchExecutive x = new BatchExecutive();
        x.unit(0, 5);
        x.unit(1, 9);
        x.unit(0, 4);
        x.unit(0, 6);
        x.unit(0, 7);
        x.fail(0);
        Due.recipe(x, 0, "m1;");
        x.batch(0, 5, 0, -1);
        x.start(0);
        x.run(1);
        due.is("the lowest that is whole, of the kind and large enough", x.unitInfo(3, 5), 1);
        due.is("all together", x.count(16), 1);
    }

    private static void cleaningOfBrokenUnits(Due due) {
        BatchExecutive x = new BatchExecutive();
        x.unit(0, 5);
        Due.recipe(x, 0, "m1;");
        x.batch(0, 5, 0, -1);
        x.start(0);
        x.run(1);
        x.fail(0);
        x.run(1);
        due.is("a broken unit is cleaned too", x.unitInfo(0, 4), 1);
        x.repair(0);
        due.is("not free yet", x.unitInfo(0, 6), 0);
    }

    private static void shared(Due due) {
        BatchExecutive x = new BatchExecutive();
        due.is("shared(-1)", x.shared(-1), -1);
        due.is("shared(3)", x.shared(3), -1);
        x.unit(0, 5);
        x.unit(0, 5);
        Due.recipe(x, 0, "m4s2;m2s0;");
        x.batch(0, 5, 0, -1);
        x.batch(0, 5, 1, -1);
        x.start(0);
        x.start(1);
        x.run(1);
        due.is("the one with the higher priority has it", x.shared(2), 1);
        due.is("the other has its unit all the same", x.batchInfo(0, 8), 1);
        due.is("and waits", x.waits(0), 3);
        due.is("and did nothing", x.batchInfo(0, 9), 0);
        due.is("free pieces", x.count(17), 2);
        x.run(3);
        due.is("released at the phase's end, and taken in the same tick", x.shared(2), 0);
        due.is("the next piece comes with the next tick", x.shared(0), -4);
        x.run(1);
        due.is("now it has", x.shared(0), 1);
        due.is("both are taken", x.count(17), 1);
        x.abort(1);
        due.is("released by an abort", x.shared(0), -4);
        x.hold(0);
        due.is("released by a hold", x.shared(2), -4);
        due.is("all are free", x.count(17), 3);
        due.is("undo gives it back", x.undo(), 3);
        due.is("given back", x.shared(2), 0);
    }

    private static void setCleaning(Due due) {
        BatchExecutive x = new BatchExecutive();
        due.is("setCleaning(-1)", x.setCleaning(-1), -1);
        due.is("setCleaning(31)", x.setCleaning(31), -1);
        due.is("at first", x.setCleaning(30), 2);
        due.is("the previous ones", x.setCleaning(0), 30);
        due.is("changes", x.count(14), 2);
        x.unit(0, 5);
        Due.recipe(x, 0, "m1;");
        for (int number = 0; number < 3; number++) {
            x.batch(0, 5, 0, -1);
            x.start(number);
        }
        due.is("without cleaning a unit is free at once, in the same tick", x.run(1), 3);
        due.is("it worked for all", x.unitInfo(0, 5), 3);
        due.is("it is free", x.unitInfo(0, 6), 1);
        x.setCleaning(3);
        x.batch(0, 5, 0, -1);
        x.start(3);
        due.is("a fourth", x.run(1), 1);
        due.is("the setting at release counts", x.unitInfo(0, 4), 3);
        x.setCleaning(9);
        due.is("and not a later one", x.unitInfo(0, 4), 3);
    }
}
