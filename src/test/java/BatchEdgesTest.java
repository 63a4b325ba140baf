/** "Batches" and promises 11, 12 and 17 to 20, edge by edge, each sentence above its own test. */
public final class BatchEdgesTest {
    public static void main(String[] args) {
        Due due = new Due("BatchEdgesTest");
        atMostTwelve(due);
        recipes(due);
        sizes(due);
        priorities(due);
        befores(due);
        aLowerNumberBefore(due);
        noVersion(due);
        beforeInEveryState(due);
        versionWhenMade(due);
        amountAtFirst(due);
        readyAtFirst(due);
        start(due);
        startCountsRunningOnes(due);
        startOfNone(due);
        priorityOutOfRange(due);
        priorityOfNone(due);
        priorityReturnsThePrevious(due);
        priorityInEveryState(due);
        infoOfNone(due);
        infoOfNothing(due);
        infoOfTheBatchBefore(due);
        infoOfTheUnit(due);
        infoOfThePhase(due);
        infoOfACompleteOne(due);
        underWay(due);
        underWayAtAnEnd(due);
        bitsOfTheAmount(due);
        amountCastToInt(due);
        waitsOfNone(due);
        waitsInEveryState(due);
        waitsForABatch(due);
        waitsForACleanUnit(due);
        waitsForAWholeUnit(due);
        waitsForALargeUnit(due);
        waitsForAUnitOfTheKind(due);
        waitsForOneOfAllEight(due);
        waitsForAUnitThatIsUndone(due);
        waitsForAPiece(due);
        waitsAsIfFirst(due);
        inOrderBelowZero(due);
        inOrderBehindTheLast(due);
        inOrderOfAllTwelve(due);
        inOrderInEveryState(due);
        due.end();
    }

    /** "There are at most 12 batches, numbered from 0 in the order in which they were made." */
    private static void atMostTwelve(Due due) {
        BatchExecutive x = Scene.of("m1;");
        for (int number = 0; number < 12; number++) {
            due.is("batch " + number, x.batch(0, 100 + number, 0, -1), number);
        }
        due.is("the last one is there", x.batchInfo(11, 2), 111);
        due.is("a thirteenth", x.batch(0, 1, 0, -1), -3);
        due.is("it is not there", x.batchInfo(12, 2), -1);
        due.is("there are twelve", x.count(3), 12);
        due.is("undo makes room", x.undo(), 3);
        due.is("for one more", x.batch(0, 55, 0, 10), 11);
        due.is("which is another one", x.batchInfo(11, 2), 55);
        due.is("one at an end makes no room", x.abort(0) * 10 + x.batch(0, 1, 0, -1), 7);
    }

    /** "recipe: 0 to 5": of a batch. */
    private static void recipes(Due due) {
        Scene.range(due, "batch's recipe", 0, 5, (x, recipe) -> x.batch(recipe, 1, 0, -1));
    }

    /** "a size (1 to 10000)"; "size: 1 to 10000". */
    private static void sizes(Due due) {
        BatchExecutive x = Scene.of("m1;");
        for (int size : new int[] {Integer.MIN_VALUE, -1, 0, 10001, Integer.MAX_VALUE}) {
            due.is("size " + size, x.batch(0, size, 0, -1), -1);
        }
        due.is("the least", x.batchInfo(x.batch(0, 1, 0, -1), 2), 1);
        due.is("the greatest", x.batchInfo(x.batch(0, 10000, 0, -1), 2), 10000);
    }

    /** "a priority (0 to 9)"; "priority: 0 to 9". */
    private static void priorities(Due due) {
        BatchExecutive x = Scene.of("m1;");
        for (int priority : new int[] {Integer.MIN_VALUE, -1, 10, Integer.MAX_VALUE}) {
            due.is("priority " + priority, x.batch(0, 1, priority, -1), -1);
        }
        due.is("the least", x.batchInfo(x.batch(0, 1, 0, -1), 3), 0);
        due.is("the greatest", x.batchInfo(x.batch(0, 1, 9, -1), 3), 9);
    }

    /** "before: number of the batch before it, or -1 for none". */
    private static void befores(Due due) {
        BatchExecutive x = Scene.of("m1;");
        x.batch(0, 1, 0, -1);
        x.batch(0, 1, 0, -1);
        for (int before : new int[] {Integer.MIN_VALUE, -4, -2, 2, 3, 11, 12, Integer.MAX_VALUE}) {
            due.is("before " + before, x.batch(0, 1, 0, before), -1);
        }
        due.is("none", x.batch(0, 1, 0, -1), 2);
        due.is("the lowest", x.batch(0, 1, 0, 0), 3);
        due.is("the latest", x.batch(0, 1, 0, 3), 4);
    }

    /** "possibly a batch before it (a lower number)": so not itself, also not the very first one. */
    private static void aLowerNumberBefore(Due due) {
        BatchExecutive x = Scene.of("m1;");
        due.is("batch 0 behind itself", x.batch(0, 1, 0, 0), -1);
        for (int number = 0; number < 12; number++) {
            due.is("behind itself", x.batch(0, 1, 0, number), -1);
            due.is("behind the one ahead", x.batch(0, 1, 0, number - 1), number);
        }
    }

    /** "NOT_POSSIBLE if the recipe has no version". */
    private static void noVersion(Due due) {
        BatchExecutive x = Due.withText("m1;");
        due.is("no recipe has one", x.batch(0, 1, 0, -1), -2);
        x.recipe(1);
        due.is("the one ahead has none", x.batch(0, 1, 0, -1), -2);
        due.is("the next has none", x.batch(2, 1, 0, -1), -2);
        due.is("this has one", x.batch(1, 1, 0, -1), 0);
        x.undo();
        x.undo();
        due.is("undo took it back", x.batch(1, 1, 0, -1), -2);
    }

    /** "NOT_POSSIBLE if ... the batch before it is stopped or aborted": in no other state. */
    private static void beforeInEveryState(Due due) {
        Scene.inStates(due, "batch behind", (x, before) -> x.batch(0, 1, 0, before), 7, 7, 7, 7, -2, -2, 7);
    }

    /** "A batch has a recipe with the version that was the latest one when it was made". */
    private static void versionWhenMade(Due due) {
        BatchExecutive x = Scene.of("m7;");
        x.batch(0, 1, 0, -1);
        Due.recipe(x, 0, "r8;");
        x.batch(0, 1, 0, -1);
        Due.recipe(x, 0, "f9;");
        x.unit(2, 5);
        for (int batch = 0; batch < 2; batch++) {
            x.start(batch);
            due.is("version of " + batch, x.batchInfo(batch, 1), batch + 1);
            due.is("ticks of " + batch, x.batchInfo(batch, 7), 7 + batch);
            due.is("a filter is not its kind", x.waits(batch), 2);
        }
    }

    /** "an amount, at first its size, as a float". */
    private static void amountAtFirst(Due due) {
        BatchExecutive x = Scene.of("m1y1;");
        for (int size : new int[] {1, 2, 3, 9999, 10000}) {
            int batch = x.batch(0, size, 0, -1);
            due.is("bits of " + size, x.batchInfo(batch, 10), Float.floatToIntBits((float) size));
            due.is("amount of " + size, x.batchInfo(batch, 11), size);
        }
    }

    /** "it is ready at first": also where undo took back one that was not. */
    private static void readyAtFirst(Due due) {
        BatchExecutive x = Scene.of("m3y50;m3;", 0);
        x.batch(0, 10, 7, -1);
        x.start(0);
        x.run(4);
        x.undo();
        x.undo();
        x.undo();
        due.is("none is left", x.count(3), 0);
        due.is("a new one", x.batch(0, 9, 1, -1), 0);
        int[] want = {0, 1, 9, 1, -4, 0, 0, 3, -4, 0, Float.floatToIntBits(9f), 9};
        for (int what = 0; what < want.length; what++) {
            due.is("batchInfo(0, " + what + ") of a new one", x.batchInfo(0, what), want[what]);
        }
    }

    /** "To start a batch that is ready makes it running."; "NOT_POSSIBLE if it is not ready." */
    private static void start(Due due) {
        Scene.inStates(due, "start", (x, batch) -> x.start(batch), 2, -2, -2, -2, -2, -2, -2);
        BatchExecutive x = Scene.states();
        x.start(0);
        due.is("its state", x.batchInfo(0, 5), 1);
    }

    /** "Returns how many batches are running then": from 1 to 12, stopping and held ones left out. */
    private static void startCountsRunningOnes(Due due) {
        BatchExecutive x = Scene.of("m5;");
        for (int batch = 0; batch < 12; batch++) {
            x.batch(0, 1, 0, -1);
            due.is("start of " + batch, x.start(batch), batch + 1);
        }
        x = Scene.states();
        x.hold(1);
        due.is("the one that is started alone", x.start(0), 1);
    }

    /** "If there is no ... batch ... with a certain number, this is INVALID_ARGUMENT." */
    private static void startOfNone(Due due) {
        due.is("start where there is none", new BatchExecutive().start(0), -1);
        Scene.noneBut(due, "start", Scene.states(), 7, (x, batch) -> x.start(batch));
    }

    /** "value: 0 to 9". */
    private static void priorityOutOfRange(Due due) {
        BatchExecutive x = Scene.states();
        for (int value : new int[] {Integer.MIN_VALUE, -1, 10, Integer.MAX_VALUE}) {
            due.is("priority " + value, x.priority(0, value), -1);
        }
        due.is("as it was", x.priority(0, 9), 0);
        due.is("the greatest", x.priority(0, 0), 9);
        due.is("the least", x.batchInfo(0, 3), 0);
    }

    /** "If there is no ... batch ... with a certain number, this is INVALID_ARGUMENT." */
    private static void priorityOfNone(Due due) {
        due.is("priority where there is none", new BatchExecutive().priority(0, 5), -1);
        Scene.noneBut(due, "priority", Scene.states(), 7, (x, batch) -> x.priority(batch, 5));
    }

    /** "Returns the previous priority". */
    private static void priorityReturnsThePrevious(Due due) {
        BatchExecutive x = Scene.of("m1;");
        x.batch(0, 1, 4, -1);
        x.batch(0, 1, 6, -1);
        due.is("of batch 1", x.priority(1, 0), 6);
        due.is("of batch 0", x.priority(0, 4), 4);
        due.is("the same again", x.priority(0, 4), 4);
        due.is("of batch 1 again", x.priority(1, 9), 0);
    }

    /** No error but INVALID_ARGUMENT is told of priority: it has one in each state. */
    private static void priorityInEveryState(Due due) {
        Scene.inStates(due, "priority", (x, batch) -> x.priority(batch, 9) * 100 + x.batchInfo(batch, 3),
                9, 9, 9, 9, 9, 9, 9);
    }

    /** "INVALID_ARGUMENT if an argument is out of range": the batch. */
    private static void infoOfNone(Due due) {
        due.is("batchInfo where there is none", new BatchExecutive().batchInfo(0, 0), -1);
        for (int what = 0; what <= 11; what++) {
            int asked = what;
            Scene.noneBut(due, "batchInfo " + what, Scene.states(), 7, (x, batch) -> x.batchInfo(batch, asked));
        }
    }

    /** "INVALID_ARGUMENT if an argument is out of range": what, 0 to 11. */
    private static void infoOfNothing(Due due) {
        for (int state = 0; state <= 6; state++) {
            BatchExecutive x = Scene.states();
            for (int what : new int[] {Integer.MIN_VALUE, -1, 12, 13, Integer.MAX_VALUE}) {
                due.is("what " + what, x.batchInfo(state, what), -1);
            }
            due.is("what 0", x.batchInfo(state, 0), state == 6 ? 1 : 0);
            due.is("what 11", x.batchInfo(state, 11), 10);
        }
    }

    /** "NOT_FOUND for 4 ... if there is none", and batch 0 is one. */
    private static void infoOfTheBatchBefore(Due due) {
        BatchExecutive x = Scene.of("m1;");
        x.batch(0, 1, 0, -1);
        x.batch(0, 1, 0, 0);
        x.batch(0, 1, 0, 1);
        due.is("none", x.batchInfo(0, 4), -4);
        due.is("batch 0", x.batchInfo(1, 4), 0);
        due.is("batch 1", x.batchInfo(2, 4), 1);
    }

    /** "NOT_FOUND for ... 8 if there is none", and unit 0 is one. */
    private static void infoOfTheUnit(Due due) {
        BatchExecutive x = Scene.of("m2;", 0);
        Scene.go(x);
        due.is("none yet", x.batchInfo(0, 8), -4);
        x.run(1);
        due.is("unit 0", x.batchInfo(0, 8), 0);
        x.run(1);
        due.is("none any more", x.batchInfo(0, 8), -4);
        Scene.inStates(due, "unit", (y, batch) -> y.batchInfo(batch, 8), -4, 0, 1, 2, -4, -4, -4);
    }

    /** "6: its phase; 7: ticks that are left of this": at the edges of phases. */
    private static void infoOfThePhase(Due due) {
        BatchExecutive x = Scene.of("m1;m2;r1;", 0, 1);
        Scene.go(x);
        int[][] want = {{0, 1}, {1, 2}, {1, 1}, {2, 1}, {-4, -4}};
        for (int tick = 0; tick < want.length; tick++) {
            due.is("phase behind " + tick + " ticks", x.batchInfo(0, 6), want[tick][0]);
            due.is("left behind " + tick + " ticks", x.batchInfo(0, 7), want[tick][1]);
            x.run(1);
        }
    }

    /** "NOT_FOUND ... for 6 and 7 if it is complete": not at the other ends. */
    private static void infoOfACompleteOne(Due due) {
        Scene.inStates(due, "phase", (x, batch) -> x.batchInfo(batch, 6), 0, 0, 0, 0, 0, 0, -4);
        Scene.inStates(due, "ticks left", (x, batch) -> x.batchInfo(batch, 7), 3, 2, 2, 2, 3, 3, -4);
    }

    /** "under way if at least one of its ticks is done, and not all." */
    private static void underWay(Due due) {
        BatchExecutive x = Scene.of("m3;m1;m2;", 0);
        Scene.go(x);
        int[] want = {0, 1, 1, 0, 0, 1, 0, 0};
        for (int tick = 0; tick < want.length; tick++) {
            due.is("under way behind " + tick + " ticks", x.batchInfo(0, 9), want[tick]);
            x.run(1);
        }
    }

    /** "1 if a phase is under way (also if it was stopped or aborted so), otherwise 0". */
    private static void underWayAtAnEnd(Due due) {
        Scene.inStates(due, "under way", (x, batch) -> x.batchInfo(batch, 9), 0, 1, 1, 1, 0, 0, 0);
        BatchExecutive x = Scene.states();
        x.stop(2);
        due.is("stopped under way", x.batchInfo(2, 9), 1);
        x.abort(1);
        due.is("aborted under way", x.batchInfo(1, 9), 1);
        x.run(2);
        due.is("stopped behind its phase", x.batchInfo(3, 5) * 10 + x.batchInfo(3, 9), 40);
    }

    /** "10: the bits of its amount, as Float.floatToIntBits gives them": the least amount that there can be too. */
    private static void bitsOfTheAmount(Due due) {
        BatchExecutive x = Scene.of("m1y1;m1y1;m1y1;m1y1;m1y1;m1y1;m1y1;m1y1;", 0);
        x.batch(0, 1, 0, -1);
        x.start(0);
        float amount = 1f;
        for (int tick = 0; tick <= 8; tick++) {
            due.is("bits behind " + tick + " ticks", x.batchInfo(0, 10), Float.floatToIntBits(amount));
            due.is("amount behind " + tick + " ticks", x.batchInfo(0, 11), tick == 0 ? 1 : 0);
            amount = amount * 1f / 100f;
            x.run(1);
        }
    }

    /** "11: its amount cast to int": what stands behind the point falls away. */
    private static void amountCastToInt(Due due) {
        int[][] cases = {{1, 99, 0}, {2, 50, 1}, {3, 50, 1}, {199, 1, 1}, {200, 1, 2}, {10000, 100, 10000}, {10000, 99, 9900}};
        for (int[] each : cases) {
            BatchExecutive x = Due.withText("m1y" + each[1] + ";");
            x.recipe(0);
            x.unit(0, 10000);
            x.batch(0, each[0], 0, -1);
            x.start(0);
            x.run(1);
            due.is(each[1] + " percent of " + each[0], x.batchInfo(0, 11), each[2]);
        }
    }

    /** "INVALID_ARGUMENT": waits of no batch. */
    private static void waitsOfNone(Due due) {
        due.is("waits where there is none", new BatchExecutive().waits(0), -1);
        Scene.noneBut(due, "waits", Scene.states(), 7, (x, batch) -> x.waits(batch));
    }

    /** "NOT_FOUND if it is neither running nor stopping." */
    private static void waitsInEveryState(Due due) {
        Scene.inStates(due, "waits", (x, batch) -> x.waits(batch), -4, 0, -4, 0, -4, -4, -4);
    }

    /** "it has a batch before it that is not complete": in each state of that one. */
    private static void waitsForABatch(Due due) {
        int[] want = {1, 1, 1, 1, 1, -4, 0};
        for (int state = 0; state <= 6; state++) {
            BatchExecutive x = Scene.of("m3;", 0, 0);
            x.batch(0, 10, 0, -1);
            x.batch(0, 10, 0, 0);
            x.start(1);
            bringTo(x, state);
            due.is("the state of the one before", x.batchInfo(0, 5), state);
            due.is("waits behind one in the state " + state, x.waits(1), want[state]);
            x.run(1);
            due.is("the unit that it has then", x.batchInfo(1, 8), state == 6 ? 1 : -4);
        }
    }

    /** Brings batch 0, which is ready, into a state; an abort takes batch 1 along. */
    private static void bringTo(BatchExecutive x, int state) {
        if (state >= 1) {
            x.start(0);
        }
        if (state == 3 || state == 6) {
            x.run(state == 3 ? 1 : 3);
        }
        switch (state) {
            case 2: x.hold(0); break;
            case 3: case 4: x.stop(0); break;
            case 5: x.abort(0); break;
            default: break;
        }
    }

    /** "(in which one tick less of cleaning is left)": 1 is clean by then, 2 are not. */
    private static void waitsForACleanUnit(Due due) {
        BatchExecutive x = Scene.of("m1;", 0);
        x.setCleaning(3);
        Scene.go(x);
        Scene.go(x);
        x.run(1);
        int[] want = {2, 2, 0};
        for (int tick = 0; tick < want.length; tick++) {
            due.is("left", x.unitInfo(0, 4), 3 - tick);
            due.is("waits", x.waits(1), want[tick]);
            x.run(1);
        }
        due.is("and it worked", x.batchInfo(1, 5), 6);
    }

    /** "no unit of the kind of its phase is free": a broken one is not. */
    private static void waitsForAWholeUnit(Due due) {
        BatchExecutive x = Scene.of("m1;", 0);
        Scene.go(x);
        due.is("a whole one", x.waits(0), 0);
        x.fail(0);
        due.is("a broken one", x.waits(0), 2);
    }

    /** "with a capacity of at least its size". */
    private static void waitsForALargeUnit(Due due) {
        BatchExecutive x = Scene.of("m1;", 0);
        int[] want = {0, 0, 2};
        for (int batch = 0; batch < 3; batch++) {
            x.batch(0, 9 + batch, 0, -1);
            x.start(batch);
            due.is("a capacity of 10 for a size of " + (9 + batch), x.waits(batch), want[batch]);
        }
    }

    /** "no unit of the kind of its phase": any other kind is none. */
    private static void waitsForAUnitOfTheKind(Due due) {
        for (int kind = 0; kind <= 3; kind++) {
            BatchExecutive x = Scene.of("mrfp".charAt(kind) + "1;");
            Scene.go(x);
            due.is("no unit at all", x.waits(0), 2);
            for (int other = 0; other <= 3; other++) {
                if (other != kind) {
                    x.unit(other, 10000);
                }
            }
            due.is("the other kinds", x.waits(0), 2);
            x.unit(kind, 10);
            due.is("its own", x.waits(0), 0);
        }
    }

    /** "no unit ... is free": all that there can be are taken. */
    private static void waitsForOneOfAllEight(Due due) {
        BatchExecutive x = Scene.of("m2;", 0, 0, 0, 0, 0, 0, 0, 0);
        for (int batch = 0; batch < 9; batch++) {
            Scene.go(x);
        }
        x.run(1);
        due.is("the eighth has the last one", x.batchInfo(7, 8), 7);
        due.is("the ninth has none", x.batchInfo(8, 8), -4);
        due.is("and waits", x.waits(8), 2);
    }

    /** "no unit ... is free": one that undo took back is no unit. */
    private static void waitsForAUnitThatIsUndone(Due due) {
        BatchExecutive x = Scene.of("m2;");
        Scene.go(x);
        x.unit(0, 10);
        due.is("it is there", x.waits(0), 0);
        x.undo();
        due.is("it is not there", x.waits(0), 2);
        x.run(1);
        due.is("nobody got it", x.batchInfo(0, 8), -4);
    }

    /** "shared equipment that it does not have, and this is not free". */
    private static void waitsForAPiece(Due due) {
        BatchExecutive x = Scene.of("m2s1;m1s2;", 0, 0);
        Scene.go(x);
        Scene.go(x);
        due.is("it is free", x.waits(1), 0);
        x.run(1);
        due.is("it has it", x.waits(0), 0);
        due.is("another has it", x.waits(1), 3);
        x.hold(0);
        due.is("released", x.waits(1), 0);
        x.restart(0);
        x.run(1);
        due.is("it was the first to get it again, and by now the other has it", x.shared(1), 1);
        due.is("its next phase needs another", x.waits(0), 0);
        due.is("the other has what it needs", x.waits(1), 0);
    }

    /** "if it were gone through first": the one unit and the one piece are there for each of them. */
    private static void waitsAsIfFirst(Due due) {
        BatchExecutive x = Scene.of("m2s1;", 0);
        Scene.go(x, 9, -1);
        Scene.go(x, 0, -1);
        due.is("the higher priority", x.waits(0), 0);
        due.is("the lower priority", x.waits(1), 0);
        x.run(1);
        due.is("but the first one gets them", x.batchInfo(0, 8), 0);
        due.is("and the other none", x.batchInfo(1, 8), -4);
    }

    /** "INVALID_ARGUMENT if place is negative". */
    private static void inOrderBelowZero(Due due) {
        for (BatchExecutive x : new BatchExecutive[] {new BatchExecutive(), Scene.states()}) {
            due.is("place -1", x.inOrder(-1), -1);
            due.is("the least place", x.inOrder(Integer.MIN_VALUE), -1);
        }
    }

    /** "NOT_FOUND if there are not so many." */
    private static void inOrderBehindTheLast(Due due) {
        due.is("of none", new BatchExecutive().inOrder(0), -4);
        BatchExecutive x = Scene.states();
        due.is("the second of two", x.inOrder(1), 3);
        due.is("a third of two", x.inOrder(2), -4);
        due.is("place 11", x.inOrder(11), -4);
        due.is("place 12", x.inOrder(12), -4);
        due.is("the greatest place", x.inOrder(Integer.MAX_VALUE), -4);
    }

    /** "by descending priorities, those with equal priorities by ascending numbers": with all twelve. */
    private static void inOrderOfAllTwelve(Due due) {
        BatchExecutive x = Scene.of("m1;");
        int[] priorities = {0, 9, 5, 5, 0, 9, 1, 8, 5, 9, 0, 1};
        int[] want = {1, 5, 9, 7, 2, 3, 8, 6, 11, 0, 4, 10};
        for (int batch = 0; batch < 12; batch++) {
            Scene.go(x, priorities[batch], -1);
        }
        for (int place = 0; place < 12; place++) {
            due.is("place " + place, x.inOrder(place), want[place]);
        }
        due.is("place 12", x.inOrder(12), -4);
    }

    /** "(running and stopping ones)": the two of them alone. */
    private static void inOrderInEveryState(Due due) {
        Scene.inStates(due, "first with the highest priority", (x, batch) -> {
            x.priority(batch, 9);
            return x.inOrder(0);
        }, 1, 1, 1, 3, 1, 1, 1);
    }
}
