/** Executives that the edge tests begin with, and numbers that are out of every range. */
final class Scene {
    /** A command, or a question, about the unit or batch of a number. */
    interface Call {
        int on(BatchExecutive x, int number);
    }

    private Scene() {
    }

    /** Units of these kinds, each of the capacity 10, and the text as the first version of recipe 0. */
    static BatchExecutive of(String text, int... kinds) {
        BatchExecutive x = Due.withText(text);
        for (int kind : kinds) {
            x.unit(kind, 10);
        }
        x.recipe(0);
        return x;
    }

    /** Makes a batch of recipe 0 that just fits into such a unit, and starts it. */
    static int go(BatchExecutive x, int priority, int before) {
        int batch = x.batch(0, 10, priority, before);
        x.start(batch);
        return batch;
    }

    static int go(BatchExecutive x) {
        return go(x, 0, -1);
    }

    /**
     * Seven batches, each in the state of its own number. The batches 1, 2 and 3 have the units 0, 1
     * and 2 and have done one tick of three; batch 6 was in the unit 3, which has to be cleaned.
     */
    static BatchExecutive states() {
        BatchExecutive x = of("m3y50;r3;", 0, 0, 0, 0);
        Due.recipe(x, 1, "m1;");
        for (int batch = 0; batch < 6; batch++) {
            x.batch(0, 10, 0, -1);
        }
        x.batch(1, 10, 0, -1);
        for (int batch : new int[] {1, 2, 3, 6}) {
            x.start(batch);
        }
        x.run(1);
        x.hold(2);
        x.stop(3);
        x.start(4);
        x.stop(4);
        x.abort(5);
        return x;
    }

    /** The answers of a call about the batches of states(), each asked in a scene of its own. */
    static void inStates(Due due, String name, Call call, int... want) {
        for (int state = 0; state <= 6; state++) {
            BatchExecutive x = states();
            due.is("state " + state, x.batchInfo(state, 5), state);
            due.is(name + " of one in the state " + state, call.on(x, state), want[state]);
        }
    }

    /** There are no units and no batches but those from 0 to count - 1. */
    static void noneBut(Due due, String name, BatchExecutive x, int count, Call call) {
        for (int number : new int[] {Integer.MIN_VALUE, -2, -1, count, count + 1, Integer.MAX_VALUE}) {
            due.is(name + " of " + number + " where there are " + count, call.on(x, number), -1);
        }
    }

    /** Numbers below, within and above the range: those outside are refused with -1, the edges are not. */
    static void range(Due due, String name, int lowest, int highest, Call call) {
        for (int number : new int[] {Integer.MIN_VALUE, lowest - 1, highest + 1, Integer.MAX_VALUE}) {
            due.is(name + " with " + number, call.on(new BatchExecutive(), number), -1);
        }
        due.holds(name + " with " + lowest, call.on(new BatchExecutive(), lowest) != -1);
        due.holds(name + " with " + highest, call.on(new BatchExecutive(), highest) != -1);
    }
}
