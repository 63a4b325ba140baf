/** Promises 21 to 25: run, ticksTo, count, event, undo. */
public final class TimeTest {
    public static void main(String[] args) {
        Due due = new Due("TimeTest");
        run(due);
        runToTheLimit(due);
        runByPriority(due);
        ticksTo(due);
        ticksToItsEdge(due);
        count(due);
        event(due);
        journalIsShort(due);
        undo(due);
        errorsChangeNothing(due);
        everyChangeIsKept(due);
        fullHouse(due);
        due.end();
    }

    private static void run(Due due) {
        BatchExecutive x = Due.withText("m2;m3;");
        due.is("run(0)", x.run(0), -1);
        due.is("run(-1)", x.run(-1), -1);
        due.is("run(501)", x.run(501), -1);
        due.is("run of max", x.run(Integer.MAX_VALUE), -1);
        due.is("run(1) of nothing", x.run(1), 0);
        due.is("ticks", x.count(11), 1);
        x.recipe(0);
        x.unit(0, 5);
        x.unit(0, 5);
        for (int number = 0; number < 3; number++) {
            x.batch(0, 5, 0, -1);
            x.start(number);
        }
        due.is("two become complete", x.run(5), 2);
        due.is("one unit for phases of one kind", x.unitInfo(0, 5), 5);
        due.is("the third waits for cleaning", x.run(6), 1);
        due.is("one, not three, for the complete ones of earlier runs", x.run(500), 0);
        due.is("ticks so far", x.count(11), 512);
    }

    private static void runToTheLimit(Due due) {
        BatchExecutive x = Due.withText("m99;");
        x.recipe(0);
        x.unit(0, 5);
        x.batch(0, 5, 0, -1);
        for (int call = 0; call < 99; call++) {
            due.is("run " + call, x.run(500), 0);
        }
        x.start(0);
        x.run(499);
        due.is("a tick too many", x.run(2), -3);
        due.is("out of range rather than the limit", x.run(501), -1);
        due.is("no tick went by", x.count(11), 49999);
        due.is("to the limit", x.run(1), 0);
        due.is("beyond it", x.run(1), -3);
        due.is("all ticks", x.count(11), 50000);
        due.is("undo", x.undo(), 3);
        due.is("and on", x.run(1), 0);
    }

    private static void runByPriority(Due due) {
        BatchExecutive x = Due.withText("m2;");
        x.recipe(0);
        x.unit(0, 5);
        int[] priorities = {2, 2, 7};
        for (int number = 0; number < 3; number++) {
            x.batch(0, 5, priorities[number], -1);
            x.start(number);
        }
        x.setCleaning(1);
        x.run(2);
        due.is("the highest priority first", x.batchInfo(2, 5), 6);
        x.run(1);
        due.is("then the lower number, cleaned in that tick", x.batchInfo(0, 8), 0);
        x.run(2);
        due.is("then the last", x.batchInfo(1, 9) * 10 + x.batchInfo(0, 5), 16);
        x.run(1);
        due.is("all", x.count(10), 3);
    }

    private static void ticksTo(Due due) {
        BatchExecutive x = Due.withText("m2;r3;");
        due.is("ticksTo of none", x.ticksTo(0), -1);
        due.is("ticksTo(-1)", x.ticksTo(-1), -1);
        x.recipe(0);
        x.unit(0, 5);
        x.unit(1, 5);
        for (int number = 0; number < 3; number++) {
            x.batch(0, 5, 0, number - 1);
        }
        due.is("a ready one never is", x.ticksTo(0), -4);
        x.start(0);
        x.start(1);
        due.is("alone", x.ticksTo(0), 5);
        due.is("behind the other, from the tick that makes this complete", x.ticksTo(1), 9);
        due.is("asking changes nothing", x.count(11) + x.count(13) + x.count(16), 0);
        due.is("asking is no change", x.count(14), 4);
        x.run(2);
        due.is("less by now", x.ticksTo(0), 3);
        x.hold(0);
        due.is("a held one never is", x.ticksTo(0), -4);
        due.is("nor one behind it", x.ticksTo(1), -4);
        x.restart(0);
        x.run(3);
        due.is("complete", x.ticksTo(0), 0);
        due.is("a stopping one that does not come to its end", x.stop(1) + 10 * x.ticksTo(1), 3 - 40);
        x.abort(2);
        due.is("an aborted one", x.ticksTo(2), -4);
        x = Due.withText("m5;");
        x.recipe(0);
        x.unit(0, 5);
        x.batch(0, 5, 0, -1);
        x.start(0);
        x.run(1);
        x.stop(0);
        due.is("a stopping one in its last phase", x.ticksTo(0), 4);
        x.batch(0, 6, 0, -1);
        x.start(1);
        due.is("one for which the unit is too small", x.ticksTo(1), -4);
    }

    /** Batches of 8 phases of 99 ticks, one behind the other: 792 ticks each. */
    private static void ticksToItsEdge(Due due) {
        BatchExecutive x = new BatchExecutive();
        x.unit(0, 5);
        Due.recipe(x, 0, "m99;m99;m99;m99;m99;m99;m99;m99;");
        Due.recipe(x, 1, "m99;m99;m99;m99;m16;");
        Due.recipe(x, 2, "m99;m99;m99;m99;m17;");
        x.setCleaning(2);
        x.batch(0, 5, 9, -1);
        x.batch(0, 5, 8, -1);
        x.batch(1, 5, 7, -1);
        x.batch(2, 5, 6, -1);
        for (int number = 0; number < 4; number++) {
            x.start(number);
        }
        due.is("the first", x.ticksTo(0), 792);
        due.is("the second, one tick behind it: in the second tick of cleaning it works already", x.ticksTo(1), 1585);
        due.is("the third, just within", x.ticksTo(2), 1998);
        x.setCleaning(3);
        due.is("with two more ticks of cleaning", x.ticksTo(2), 2000);
        x.setCleaning(4);
        due.is("beyond", x.ticksTo(2), -4);
        due.is("far beyond", x.ticksTo(3), -4);
        x.run(1);
        due.is("one tick beyond", x.ticksTo(2), -4);
        x.run(1);
        due.is("within again", x.ticksTo(2), 2000);
        for (int call = 0; call < 97; call++) {
            x.run(1);
        }
        for (int number = 0; number < 4; number++) {
            x.hold(number);
        }
        for (int call = 0; call < 99; call++) {
            x.run(500);
        }
        x.restart(0);
        due.is("the limit of ticks in all is one of run alone", x.ticksTo(0), 693);
    }

    private static void count(Due due) {
        BatchExecutive x = Due.withText("m3s0;m1;");
        due.is("count(-1)", x.count(-1), -1);
        due.is("count(18)", x.count(18), -1);
        x.recipe(0);
        x.unit(0, 5);
        x.unit(0, 5);
        x.unit(0, 5);
        x.unit(3, 5);
        for (int number = 0; number < 8; number++) {
            x.batch(0, 5, 0, -1);
        }
        x.start(0);
        x.run(4);
        x.start(1);
        x.start(2);
        x.run(1);
        x.stop(1);
        x.start(3);
        x.stop(3);
        x.start(4);
        x.hold(4);
        x.abort(5);
        x.fail(3);
        int[] want = {4, 1, 0, 8, 2, 1, 1, 1, 1, 1, 1, 5, 2, 9, 4, 8, 5, 2};
        for (int what = 0; what < want.length; what++) {
            due.is("count(" + what + ")", x.count(what), want[what]);
        }
    }

    private static void event(Due due) {
        BatchExecutive x = Due.withText("m2;m1;r1;");
        x.recipe(0);
        x.unit(0, 5);
        x.unit(1, 5);
        x.batch(0, 5, 0, -1);
        due.is("event(-1, 0)", x.event(-1, 0), -1);
        due.is("event(0, -1)", x.event(0, -1), -1);
        due.is("event(0, 3)", x.event(0, 3), -1);
        due.is("event(0, 0) of none", x.event(0, 0), -4);
        x.start(0);
        x.run(1);
        x.hold(0);
        x.run(1);
        x.restart(0);
        x.run(3);
        int[][] want = {{4, 6}, {4, 1}, {4, 0}, {3, 1}, {2, 1}, {2, 3}, {1, 2}, {0, 0}};
        for (int index = 0; index < want.length; index++) {
            due.is("tick of event " + index, x.event(index, 0), want[index][0]);
            due.is("batch of event " + index, x.event(index, 1), 0);
            due.is("event " + index, x.event(index, 2), want[index][1]);
        }
        due.is("events", x.count(13), want.length);
        due.is("one too many", x.event(want.length, 0), -4);
        due.is("a wrong what rather than one too many", x.event(want.length, 3), -1);
    }

    private static void journalIsShort(Due due) {
        BatchExecutive x = Due.withText("m9;");
        x.recipe(0);
        x.batch(0, 5, 0, -1);
        x.start(0);
        for (int round = 0; round < 30; round++) {
            x.hold(0);
            x.restart(0);
            x.run(1);
        }
        due.is("the latest 40 alone", x.count(13), 40);
        due.is("the oldest of them", x.event(39, 0), 10);
        due.is("a hold", x.event(39, 2), 2);
        due.is("the latest", x.event(0, 0) * 10 + x.event(0, 2), 293);
        due.is("no more", x.event(40, 0), -4);
        due.is("undo of a tick", x.undo(), 3);
        due.is("undo of a restart", x.undo(), 2);
        due.is("the latest is another", x.event(0, 2), 2);
        due.is("the oldest is back", x.event(39, 0) * 10 + x.event(39, 2), 93);
        overwrittenEventsComeBack(due);
    }

    /** Two events of another batch and kind take the rows of the oldest ones, and give them back. */
    private static void overwrittenEventsComeBack(Due due) {
        BatchExecutive x = Due.withText("m9;");
        x.recipe(0);
        x.batch(0, 5, 0, -1);
        x.batch(0, 5, 0, -1);
        x.batch(0, 5, 0, 1);
        x.start(0);
        for (int round = 0; round < 20; round++) {
            x.hold(0);
            x.restart(0);
        }
        x.abort(1);
        due.is("the latest", x.event(0, 1) * 10 + x.event(0, 2), 25);
        due.is("the one ahead", x.event(1, 1) * 10 + x.event(1, 2), 15);
        due.is("the oldest", x.event(39, 2), 2);
        due.is("undo", x.undo(), 3);
        for (int index = 0; index < 40; index++) {
            due.is("batch of event " + index, x.event(index, 1), 0);
            due.is("event " + index, x.event(index, 2), index % 2 == 0 ? 3 : 2);
        }
    }

    private static void undo(Due due) {
        BatchExecutive x = new BatchExecutive();
        due.is("undo of nothing", x.undo(), -2);
        for (int number = 0; number < 6; number++) {
            x.unit(0, 1 + number);
        }
        due.is("four states at most", x.count(14), 4);
        x.type('m');
        due.is("typing is no change", x.count(14), 4);
        for (int left = 3; left >= 0; left--) {
            due.is("undo to " + left, x.undo(), left);
            due.is("units left", x.count(0), 2 + left);
            due.is("states left", x.count(14), left);
        }
        due.is("no more", x.undo(), -2);
        due.is("the text stays", x.count(15), 1);
        x.setCleaning(7);
        x.run(5);
        x.fail(1);
        due.is("undo of a failure", x.undo(), 2);
        due.is("undo of ticks", x.undo(), 1);
        due.is("ticks", x.count(11), 0);
        due.is("undo of the setting", x.undo(), 0);
        due.is("setting", x.count(12), 2);
        undoOfAll(due);
    }

    /** Units, batches and the rest come back as they were, also where later ones took their numbers. */
    private static void undoOfAll(Due due) {
        BatchExecutive x = Due.withText("m3s1y50;m2;");
        x.recipe(0);
        x.unit(0, 9);
        x.batch(0, 8, 3, -1);
        x.start(0);
        x.run(4);
        x.abort(0);
        due.is("undo of the abort", x.undo(), 3);
        due.is("its unit", x.batchInfo(0, 8), 0);
        due.is("the unit's batch", x.unitInfo(0, 2), 0);
        due.is("its amount", x.batchInfo(0, 11), 4);
        due.is("undo of the ticks", x.undo(), 2);
        due.is("its amount at first", x.batchInfo(0, 11), 8);
        due.is("worked", x.unitInfo(0, 5), 0);
        due.is("events", x.count(13), 0);
        due.is("undo of start", x.undo(), 1);
        due.is("undo of batch", x.undo(), 0);
        due.is("another batch", x.batch(0, 2, 1, -1), 0);
        due.is("its size", x.batchInfo(0, 2), 2);
        due.is("its state", x.batchInfo(0, 5), 0);
        due.is("its unit", x.batchInfo(0, 8), -4);
    }

    /** Each of the 13 changes can be seen, and undo takes just that one back. */
    private static void everyChangeIsKept(Due due) {
        for (int change = 0; change < 13; change++) {
            BatchExecutive x = Due.withText("m5a;");
            x.unit(0, 9);
            x.unit(0, 9);
            x.fail(1);
            x.recipe(0);
            for (int number = 0; number < 3; number++) {
                x.batch(0, 9, 1, -1);
            }
            x.start(0);
            x.start(1);
            x.hold(1);
            x.run(2);
            String before = look(x);
            make(x, change);
            due.holds("change " + change + " can be seen", !look(x).equals(before));
            due.is("undo of change " + change, x.undo(), 3);
            due.holds("all is as before change " + change, look(x).equals(before));
        }
    }

    private static void make(BatchExecutive x, int change) {
        switch (change) {
            case 0: x.unit(3, 3); break;
            case 1: x.fail(0); break;
            case 2: x.repair(1); break;
            case 3: x.recipe(0); break;
            case 4: x.batch(0, 1, 1, 1); break;
            case 5: x.start(2); break;
            case 6: x.hold(0); break;
            case 7: x.restart(1); break;
            case 8: x.stop(0); break;
            case 9: x.abort(0); break;
            case 10: x.priority(0, 9); break;
            case 11: x.setCleaning(9); break;
            default: x.run(1); break;
        }
    }

    /** Some answers that tell all changes of everyChangeIsKept from one another. */
    private static String look(BatchExecutive x) {
        StringBuilder text = new StringBuilder();
        for (int what = 0; what <= 17; what++) {
            text.append(what == 14 ? 0 : x.count(what)).append(' ');
        }
        for (int batch = 0; batch < 3; batch++) {
            for (int what = 0; what <= 11; what++) {
                text.append(x.batchInfo(batch, what)).append(' ');
            }
        }
        return text.append(x.versions(0)).append(' ').append(x.event(0, 2)).toString();
    }

    /** All units and batches that there can be. */
    private static void fullHouse(Due due) {
        BatchExecutive x = Due.withText("m1;m1;m1;m1;m1;m1;m1;m1;");
        for (int number = 0; number < 8; number++) {
            x.unit(0, 10 + number);
        }
        due.is("all are free", x.count(2), 8);
        for (int version = 1; version <= 9; version++) {
            x.recipe(5);
        }
        for (int number = 0; number < 12; number++) {
            x.batch(5, 10, 0, -1);
            x.start(number);
        }
        due.is("the last one waits for cleaning", x.ticksTo(11), 17);
        x.run(7);
        due.is("none is free", x.count(2), 0);
        due.is("a ninth batch waits", x.waits(8), 2);
        due.is("worked", x.count(16), 56);
        due.is("eight are complete", x.run(1), 8);
        due.is("it waits still", x.waits(8), 2);
        x.run(1);
        due.is("one tick of cleaning is left", x.waits(8), 0);
        due.is("the others", x.run(8), 4);
        due.is("free ones again", x.count(2), 4);
        due.is("all are complete", x.count(10), 12);
        for (int number = 0; number < 8; number++) {
            x.fail(number);
        }
        due.is("all are broken", x.count(1), 8);
        due.is("none is free then", x.count(2), 0);
        due.is("the last one is repaired", x.repair(7), 7);
    }

    private static void errorsChangeNothing(Due due) {
        BatchExecutive x = new BatchExecutive();
        x.unit(9, 9);
        x.fail(0);
        x.repair(0);
        x.setCleaning(31);
        x.recipe(0);
        x.batch(0, 1, 1, -1);
        x.start(0);
        x.hold(0);
        x.restart(0);
        x.stop(0);
        x.abort(0);
        x.priority(0, 0);
        x.run(0);
        x.type(127);
        due.is("no state is kept", x.count(14), 0);
        due.is("no character", x.count(15), 0);
    }
}
