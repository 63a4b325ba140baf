/** Promises 11, 12 and 17 to 20: batch, start, priority, batchInfo, waits, inOrder. */
public final class BatchesTest {
    public static void main(String[] args) {
        Due due = new Due("BatchesTest");
        batch(due);
        batchBehindOthers(due);
        start(due);
        priority(due);
        batchInfo(due);
        amounts(due);
        waitsForBatch(due);
        waitsForUnit(due);
        waitsForPiece(due);
        inOrder(due);
        due.end();
    }

    private static void batch(Due due) {
        BatchExecutive x = Due.withText("m1;");
        due.is("batch of a recipe without versions", x.batch(0, 1, 0, -1), -2);
        x.recipe(0);
        due.is("recipe -1", x.batch(-1, 1, 0, -1), -1);
        due.is("recipe 6", x.batch(6, 1, 0, -1), -1);
        due.is("size 0", x.batch(0, 0, 0, -1), -1);
        due.is("size 10001", x.batch(0, 10001, 0, -1), -1);
        due.is("priority -1", x.batch(0, 1, -1, -1), -1);
        due.is("priority 10", x.batch(0, 1, 10, -1), -1);
        due.is("before -2", x.batch(0, 1, 0, -2), -1);
        due.is("before itself", x.batch(0, 1, 0, 0), -1);
        due.is("no version, and a wrong size", x.batch(1, 0, 0, -1), -1);
        due.is("no change", x.count(14), 1);
        due.is("the lowest values", x.batch(0, 1, 0, -1), 0);
        due.is("the highest values", x.batch(0, 10000, 9, 0), 1);
        for (int number = 2; number < 12; number++) {
            due.is("batch " + number, x.batch(0, 1, 0, -1), number);
        }
        due.is("a thirteenth", x.batch(0, 1, 0, -1), -3);
        due.is("a thirteenth without a version", x.batch(1, 1, 0, -1), -2);
        due.is("a thirteenth behind none", x.batch(0, 1, 0, 12), -1);
        due.is("batches", x.count(3), 12);
        due.is("ready ones", x.count(4), 12);
    }

    private static void batchBehindOthers(Due due) {
        BatchExecutive x = Due.withText("m1;");
        x.recipe(0);
        x.unit(0, 9);
        for (int number = 0; number < 4; number++) {
            x.batch(0, 1, 0, -1);
        }
        x.start(0);
        x.run(1);
        x.start(1);
        x.stop(1);
        x.abort(2);
        x.start(3);
        x.hold(3);
        due.is("behind a complete one", x.batch(0, 1, 0, 0), 4);
        due.is("behind a stopped one", x.batch(0, 1, 0, 1), -2);
        due.is("behind an aborted one", x.batch(0, 1, 0, 2), -2);
        due.is("behind a held one", x.batch(0, 1, 0, 3), 5);
        due.is("behind a ready one", x.batch(0, 1, 0, 4), 6);
    }

    private static void start(Due due) {
        BatchExecutive x = Due.withText("m1;");
        x.recipe(0);
        due.is("start of none", x.start(0), -1);
        due.is("start of -1", x.start(-1), -1);
        x.batch(0, 1, 0, -1);
        x.batch(0, 1, 0, 0);
        x.batch(0, 1, 0, -1);
        due.is("start", x.start(1), 1);
        due.is("start of another", x.start(0), 2);
        due.is("start again", x.start(0), -2);
        x.hold(0);
        due.is("start of a held one", x.start(0), -2);
        due.is("held ones are not running", x.start(2), 2);
        due.is("no event but the hold", x.count(13), 1);
        due.is("start is a change", x.undo(), 3);
        due.is("undone", x.batchInfo(2, 5), 0);
        x.abort(2);
        due.is("start of an aborted one", x.start(2), -2);
    }

    private static void priority(Due due) {
        BatchExecutive x = Due.withText("m1;");
        x.recipe(0);
        due.is("priority of none", x.priority(0, 0), -1);
        x.batch(0, 1, 4, -1);
        due.is("priority -1", x.priority(0, -1), -1);
        due.is("priority 10", x.priority(0, 10), -1);
        due.is("of batch -1", x.priority(-1, 1), -1);
        due.is("the previous one", x.priority(0, 9), 4);
        due.is("the same once more", x.priority(0, 9), 9);
        due.is("is a change too", x.count(14), 4);
        due.is("lowest", x.priority(0, 0), 9);
        x.abort(0);
        due.is("of an aborted one", x.priority(0, 3), 0);
        due.is("undo", x.undo(), 3);
        due.is("undone", x.batchInfo(0, 3), 0);
    }

    private static void batchInfo(Due due) {
        BatchExecutive x = Due.withText("m3y50;m2;r1;");
        x.unit(1, 99);
        x.unit(0, 99);
        x.recipe(3);
        x.batch(3, 11, 6, -1);
        x.batch(3, 12, 7, 0);
        infos(due, x, 0, "a new one", 3, 1, 11, 6, -4, 0, 0, 3, -4, 0);
        infos(due, x, 1, "one behind it", 3, 1, 12, 7, 0, 0, 0, 3, -4, 0);
        due.is("its amount", x.batchInfo(0, 11), 11);
        x.start(0);
        x.run(2);
        infos(due, x, 0, "under way", 3, 1, 11, 6, -4, 1, 0, 1, 1, 1);
        x.run(1);
        infos(due, x, 0, "behind its first phase", 3, 1, 11, 6, -4, 1, 1, 2, 1, 0);
        due.is("its amount is cut down", x.batchInfo(0, 11), 5);
        due.is("exactly 5.5", x.batchInfo(0, 10), Float.floatToIntBits(5.5f));
        x.run(2);
        infos(due, x, 0, "its unit is released", 3, 1, 11, 6, -4, 1, 2, 1, -4, 0);
        due.is("complete", x.run(1), 1);
        infos(due, x, 0, "complete", 3, 1, 11, 6, -4, 6, -4, -4, -4, 0);
        x.start(1);
        x.run(2);
        x.abort(1);
        infos(due, x, 1, "aborted under way", 3, 1, 12, 7, 0, 5, 0, 1, -4, 1);
        due.is("what -1", x.batchInfo(0, -1), -1);
        due.is("what 12", x.batchInfo(0, 12), -1);
        due.is("batch 2", x.batchInfo(2, 0), -1);
        due.is("batch -1", x.batchInfo(-1, 0), -1);
    }

    private static void infos(Due due, BatchExecutive x, int batch, String when, int... want) {
        for (int what = 0; what < want.length; what++) {
            due.is(when + ": batchInfo(" + batch + ", " + what + ")", x.batchInfo(batch, what), want[what]);
        }
    }

    /** The bits are those of the float that the document's own words give, from left to right. */
    private static void amounts(Due due) {
        for (int size : new int[] {1, 2, 3, 7, 9999, 10000, 8191, 8192}) {
            for (int percent : new int[] {1, 3, 7, 33, 50, 99, 100}) {
                StringBuilder text = new StringBuilder();
                for (int phase = 0; phase < 8; phase++) {
                    text.append("m1y").append(percent).append(';');
                }
                BatchExecutive x = Due.withText(text.toString());
                x.unit(0, 10000);
                x.recipe(0);
                x.batch(0, size, 0, -1);
                x.start(0);
                float amount = size;
                due.is("bits at first", x.batchInfo(0, 10), Float.floatToIntBits(amount));
                for (int phase = 0; phase < 8; phase++) {
                    x.run(1);
                    amount = amount * (float) percent / (float) 100;
                    String of = " of " + size + " at " + percent + " behind phase " + phase;
                    due.is("bits" + of, x.batchInfo(0, 10), Float.floatToIntBits(amount));
                    due.is("amount" + of, x.batchInfo(0, 11), (int) amount);
                }
            }
        }
    }

    private static void waitsForBatch(Due due) {
        BatchExecutive x = Due.withText("m2;");
        x.recipe(0);
        due.is("waits of none", x.waits(0), -1);
        due.is("waits of -1", x.waits(-1), -1);
        x.batch(0, 1, 0, -1);
        x.batch(0, 1, 9, 0);
        due.is("a ready one", x.waits(0), -4);
        x.start(0);
        x.start(1);
        due.is("waits for its unit", x.waits(0), 2);
        due.is("waits for the batch rather than the unit", x.waits(1), 1);
        x.unit(0, 1);
        x.unit(0, 1);
        due.is("would work", x.waits(0), 0);
        x.run(2);
        due.is("the one before is complete", x.waits(0), -4);
        due.is("it may begin", x.waits(1), 0);
        x.run(1);
        due.is("it has begun", x.batchInfo(1, 9), 1);
        x.hold(1);
        due.is("a held one", x.waits(1), -4);
    }

    private static void waitsForUnit(Due due) {
        BatchExecutive x = Due.withText("m1;r1;m1;");
        x.recipe(0);
        x.unit(0, 9);
        x.batch(0, 9, 0, -1);
        x.batch(0, 10, 9, -1);
        x.start(0);
        x.start(1);
        due.is("the unit is too small", x.waits(1), 2);
        due.is("just large enough", x.waits(0), 0);
        x.run(1);
        due.is("no unit of that kind", x.waits(0), 2);
        x.unit(1, 9);
        due.is("a new one", x.waits(0), 0);
        x.run(1);
        due.is("cleaned by the next tick", x.unitInfo(0, 4), 1);
        due.is("so it would work then", x.waits(0), 0);
        x.undo();
        x.setCleaning(4);
        x.run(1);
        x.undo();
        x.fail(1);
        due.is("a broken one", x.waits(0), 2);
    }

    private static void waitsForPiece(Due due) {
        BatchExecutive x = Due.withText("m3s1;");
        x.recipe(0);
        x.unit(0, 9);
        x.batch(0, 9, 5, -1);
        x.batch(0, 9, 5, -1);
        x.start(0);
        x.start(1);
        x.run(1);
        due.is("for the unit rather than the piece", x.waits(1), 2);
        x.unit(0, 9);
        due.is("for the piece", x.waits(1), 3);
        due.is("not for its own", x.waits(0), 0);
        due.is("asking takes nothing", x.batchInfo(1, 8), -4);
        x.run(1);
        due.is("it waits with a unit", x.batchInfo(1, 8), 1);
        due.is("that works not", x.unitInfo(1, 5), 0);
        x.stop(1);
        due.is("none of its ticks is done, so it is stopped at once", x.batchInfo(1, 5), 4);
        due.is("its unit has to be cleaned", x.unitInfo(1, 4), 2);
    }

    private static void inOrder(Due due) {
        BatchExecutive x = Due.withText("m5;m1;");
        x.recipe(0);
        x.unit(0, 9);
        due.is("inOrder(-1)", x.inOrder(-1), -1);
        due.is("inOrder(0) of none", x.inOrder(0), -4);
        int[] priorities = {3, 9, 3, 0, 9, 5};
        for (int number = 0; number < 6; number++) {
            x.batch(0, 1, priorities[number], -1);
            due.is("ready ones do not count", x.inOrder(number), -4);
            x.start(number);
        }
        order(due, x, 1, 4, 5, 0, 2, 3);
        x.run(1);
        x.stop(1);
        x.hold(4);
        order(due, x, 1, 5, 0, 2, 3);
        x.priority(3, 4);
        order(due, x, 1, 5, 3, 0, 2);
        due.is("inOrder(max)", x.inOrder(Integer.MAX_VALUE), -4);
        x.run(4);
        order(due, x, 5, 3, 0, 2);
    }

    private static void order(Due due, BatchExecutive x, int... want) {
        for (int place = 0; place < want.length; place++) {
            due.is("inOrder(" + place + ")", x.inOrder(place), want[place]);
        }
        due.is("inOrder behind the last", x.inOrder(want.length), -4);
    }
}
