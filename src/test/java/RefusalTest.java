import java.util.ArrayList;
import java.util.List;
import java.util.function.Supplier;
import java.util.function.ToIntFunction;

/**
 * "Changes and errors": which error comes first, that a refused call and a question change nothing,
 * and what the changes are. Two executives of one scene are set side by side: only one is called.
 */
public final class RefusalTest {
    private record Case(String name, Supplier<BatchExecutive> scene, ToIntFunction<BatchExecutive> call, int want) {
    }

    private final Due due;
    private final List<Case> cases = new ArrayList<>();

    private RefusalTest(Due due) {
        this.due = due;
    }

    public static void main(String[] args) {
        Due due = new Due("RefusalTest");
        invalidRatherThanNotPossible(due);
        invalidRatherThanLimit(due);
        invalidRatherThanNotFound(due);
        notPossibleRatherThanLimit(due);
        notPossibleRatherThanNotFound(due);
        new RefusalTest(due).refusedCallsChangeNothing();
        new RefusalTest(due).questionsChangeNothing();
        new RefusalTest(due).changesAreKept();
        othersAreNoChanges(due);
        theLastCall(due);
        due.end();
    }

    // ---- scenes

    /**
     * Seven batches in the seven states and one, 7, under way with the piece 1 and the unit 5, a broken
     * unit, 4, a text with a fault, and two changes of cleaning to undo.
     */
    private static BatchExecutive many() {
        BatchExecutive x = Scene.states();
        x.unit(3, 5);
        x.fail(4);
        x.unit(0, 5);
        Due.recipe(x, 2, "m3s1y50a;p2y50a;");
        x.start(x.batch(2, 5, 3, -1));
        x.run(1);
        x.type('x');
        x.setCleaning(3);
        x.setCleaning(4);
        return x;
    }

    /** As many units, versions of recipe 0 and batches as there can be; batch 0 is stopped. */
    private static BatchExecutive full() {
        BatchExecutive x = Due.withText("m2s0;");
        for (int unit = 0; unit < 8; unit++) {
            x.unit(unit % 2, 10);
        }
        for (int version = 1; version <= 9; version++) {
            x.recipe(0);
        }
        for (int batch = 0; batch < 12; batch++) {
            x.batch(0, 10, batch % 10, -1);
        }
        x.start(0);
        x.stop(0);
        x.start(1);
        x.run(1);
        return x;
    }

    /** As many ticks as there can be. */
    private static BatchExecutive old() {
        BatchExecutive x = Scene.of("m2;", 0);
        for (int call = 0; call < 100; call++) {
            x.run(500);
        }
        Scene.go(x);
        return x;
    }

    /** A text of as many characters as there can be. */
    private static BatchExecutive typed() {
        BatchExecutive x = new BatchExecutive();
        for (int length = 0; length < 100; length++) {
            x.type('m');
        }
        return x;
    }

    private static BatchExecutive faultless() {
        return Due.withText("m1;");
    }

    // ---- which error comes first

    /** "INVALID_ARGUMENT is returned rather than NOT_POSSIBLE". */
    private static void invalidRatherThanNotPossible(Due due) {
        due.is("recipe 6 of a text with a fault", many().recipe(6), -1);
        due.is("recipe -1 of a text with a fault", many().recipe(-1), -1);
        due.is("a wrong size without a version", many().batch(3, 0, 0, -1), -1);
        due.is("a wrong priority without a version", many().batch(3, 1, 10, -1), -1);
        due.is("no such batch before, without a version", many().batch(3, 1, 0, 8), -1);
        due.is("no such recipe behind a stopped one", many().batch(6, 1, 0, 4), -1);
        due.is("a wrong size behind a stopped one", many().batch(0, 10001, 0, 4), -1);
        due.is("a wrong priority behind an aborted one", many().batch(0, 1, -1, 5), -1);
    }

    /** "INVALID_ARGUMENT is returned rather than ... LIMIT_REACHED". */
    private static void invalidRatherThanLimit(Due due) {
        due.is("a ninth unit of no kind", full().unit(4, 1), -1);
        due.is("a ninth unit without capacity", full().unit(0, 0), -1);
        due.is("a thirteenth batch of no recipe", full().batch(6, 1, 0, -1), -1);
        due.is("a thirteenth batch without size", full().batch(0, 0, 0, -1), -1);
        due.is("a thirteenth batch with a wrong priority", full().batch(0, 1, 10, -1), -1);
        due.is("a thirteenth batch behind itself", full().batch(0, 1, 0, 12), -1);
        due.is("no ticks at the limit", old().run(0), -1);
        due.is("501 ticks at the limit", old().run(501), -1);
        due.is("a wrong character behind 100", typed().type(127), -1);
        due.is("another behind 100", typed().type(31), -1);
    }

    /** "INVALID_ARGUMENT is returned rather than ... NOT_FOUND". */
    private static void invalidRatherThanNotFound(Due due) {
        due.is("phase 9, what 5", many().phase(0, 1, 9, 5), -1);
        due.is("phase 9 of no version", many().phase(0, 2, 9, 0), -1);
        due.is("event 99, what 3", many().event(99, 3), -1);
        due.is("event 99, what -1", many().event(99, -1), -1);
        due.is("fault 2 of none", faultless().fault(2), -1);
        due.is("batchInfo of what 12 of a complete one", many().batchInfo(6, 12), -1);
        due.is("unitInfo of what 7 of nobody's", many().unitInfo(4, 7), -1);
        due.is("waits of no batch", many().waits(8), -1);
        due.is("ticksTo no batch", many().ticksTo(8), -1);
    }

    /** "NOT_POSSIBLE rather than LIMIT_REACHED". */
    private static void notPossibleRatherThanLimit(Due due) {
        BatchExecutive x = full();
        due.is("a tenth version", x.recipe(0), -3);
        x.type('x');
        due.is("a tenth version of a text with a fault", x.recipe(0), -2);
        due.is("a thirteenth batch", x.batch(0, 1, 0, -1), -3);
        due.is("a thirteenth batch without a version", x.batch(1, 1, 0, -1), -2);
        due.is("a thirteenth batch behind a stopped one", x.batch(0, 1, 0, 0), -2);
        x.abort(11);
        due.is("a thirteenth batch behind an aborted one", x.batch(0, 1, 0, 11), -2);
    }

    /** "NOT_POSSIBLE rather than ..." NOT_FOUND: a broken unit without a batch. */
    private static void notPossibleRatherThanNotFound(Due due) {
        BatchExecutive x = many();
        due.is("nobody's", x.unitInfo(4, 2), -4);
        due.is("fail", x.fail(4), -2);
    }

    // ---- what changes nothing

    private void add(String name, Supplier<BatchExecutive> scene, int want, ToIntFunction<BatchExecutive> call) {
        cases.add(new Case(name, scene, call, want));
    }

    private void add(String name, int want, ToIntFunction<BatchExecutive> call) {
        add(name, RefusalTest::many, want, call);
    }

    /** "A call that returns an error changes nothing." */
    private void refusedCallsChangeNothing() {
        refusedOfUnits();
        refusedOfRecipes();
        refusedOfBatches();
        refusedCommands();
        refusedOfTime();
        for (Case each : cases) {
            compare(each);
        }
    }

    /** All that is told is the same, at once, behind an undo, and behind some ticks. */
    private void compare(Case each) {
        for (int then = 0; then < 3; then++) {
            BatchExecutive called = each.scene.get();
            BatchExecutive twin = each.scene.get();
            due.is(each.name, each.call.applyAsInt(called), each.want);
            due.is(each.name + ", then " + then, goOn(called, then), goOn(twin, then));
            due.holds(each.name + ", then " + then + ": all is the same", Look.at(called).equals(Look.at(twin)));
        }
    }

    private static int goOn(BatchExecutive x, int then) {
        switch (then) {
            case 1: return x.undo();
            case 2: return x.run(3);
            default: return 0;
        }
    }

    private void refusedOfUnits() {
        add("unit of no kind", -1, x -> x.unit(4, 1));
        add("unit without capacity", -1, x -> x.unit(0, 0));
        add("a ninth unit", RefusalTest::full, -3, x -> x.unit(0, 1));
        add("fail of no unit", -1, x -> x.fail(6));
        add("fail of a broken unit", -2, x -> x.fail(4));
        add("repair of no unit", -1, x -> x.repair(6));
        add("repair of a whole unit", -2, x -> x.repair(0));
        add("unitInfo of no unit", -1, x -> x.unitInfo(6, 0));
        add("unitInfo of nobody's", -4, x -> x.unitInfo(3, 2));
        add("shared(3)", -1, x -> x.shared(3));
        add("shared(0)", -4, x -> x.shared(0));
        add("setCleaning(31)", -1, x -> x.setCleaning(31));
        add("setCleaning(-1)", -1, x -> x.setCleaning(-1));
    }

    private void refusedOfRecipes() {
        add("recipe 6", RefusalTest::full, -1, x -> x.recipe(6));
        add("recipe of a text with a fault", -2, x -> x.recipe(0));
        add("a tenth version", RefusalTest::full, -3, x -> x.recipe(0));
        add("versions(6)", -1, x -> x.versions(6));
        add("phase of no version", -1, x -> x.phase(0, 2, 0, 0));
        add("a phase too many", -4, x -> x.phase(0, 1, 2, 0));
        add("type(127)", -1, x -> x.type(127));
        add("a character too many", RefusalTest::typed, -3, x -> x.type('m'));
        add("fault(2)", -1, x -> x.fault(2));
        add("fault of none", RefusalTest::faultless, -4, x -> x.fault(0));
    }

    private void refusedOfBatches() {
        add("batch of no recipe", -1, x -> x.batch(6, 1, 0, -1));
        add("batch without size", -1, x -> x.batch(0, 0, 0, -1));
        add("batch with a wrong priority", -1, x -> x.batch(0, 1, 10, -1));
        add("batch behind itself", -1, x -> x.batch(0, 1, 0, 8));
        add("batch without a version", -2, x -> x.batch(3, 1, 0, -1));
        add("batch behind a stopped one", -2, x -> x.batch(0, 1, 0, 4));
        add("batch behind an aborted one", -2, x -> x.batch(0, 1, 0, 5));
        add("a thirteenth batch", RefusalTest::full, -3, x -> x.batch(0, 1, 0, -1));
        add("priority of no batch", -1, x -> x.priority(8, 5));
        add("priority 10", -1, x -> x.priority(0, 10));
        add("batchInfo of no batch", -1, x -> x.batchInfo(8, 0));
        add("batchInfo of none before", -4, x -> x.batchInfo(0, 4));
        add("phase of a complete one", -4, x -> x.batchInfo(6, 6));
        add("waits of no batch", -1, x -> x.waits(8));
        add("waits of a held one", -4, x -> x.waits(2));
        add("inOrder(-1)", -1, x -> x.inOrder(-1));
        add("inOrder of too many", -4, x -> x.inOrder(3));
    }

    private void refusedCommands() {
        for (int each = 0; each <= 8; each++) {
            int batch = each;
            int missing = batch == 8 ? -1 : -2;
            if (batch != 0) {
                add("start of " + batch, missing, x -> x.start(batch));
            }
            if (batch != 1 && batch != 3 && batch != 7) {
                add("hold of " + batch, missing, x -> x.hold(batch));
            }
            if (batch != 2) {
                add("restart of " + batch, missing, x -> x.restart(batch));
            }
            if (batch != 1 && batch != 2 && batch != 7) {
                add("stop of " + batch, missing, x -> x.stop(batch));
            }
            if (batch >= 4 && batch != 7) {
                add("abort of " + batch, missing, x -> x.abort(batch));
            }
        }
        add("restart with a broken unit", () -> {
            BatchExecutive x = many();
            x.fail(1);
            return x;
        }, -2, x -> x.restart(2));
    }

    private void refusedOfTime() {
        add("run(0)", -1, x -> x.run(0));
        add("run(501)", -1, x -> x.run(501));
        add("run beyond the limit", RefusalTest::old, -3, x -> x.run(1));
        add("ticksTo no batch", -1, x -> x.ticksTo(8));
        add("ticksTo a held one", -4, x -> x.ticksTo(2));
        add("count(18)", -1, x -> x.count(18));
        add("event(-1, 0)", -1, x -> x.event(-1, 0));
        add("event of too many", -4, x -> x.event(39, 0));
        add("undo of nothing", RefusalTest::faultless, -2, x -> x.undo());
    }

    /** Questions that are answered: they are not told to change anything. */
    private void questionsChangeNothing() {
        add("unitInfo", 10, x -> x.unitInfo(0, 1));
        add("shared", RefusalTest::full, 1, x -> x.shared(0));
        add("versions", 1, x -> x.versions(2));
        add("phase", 50, x -> x.phase(2, 1, 1, 3));
        add("batchInfo", Float.floatToIntBits(5f), x -> x.batchInfo(7, 10));
        add("waits", 0, x -> x.waits(7));
        add("waits for another", RefusalTest::full, 0, x -> x.waits(1));
        add("inOrder", 7, x -> x.inOrder(0));
        add("ticksTo", RefusalTest::full, 1, x -> x.ticksTo(1));
        add("ticksTo at the limit", RefusalTest::old, 2, x -> x.ticksTo(0));
        add("count", 8, x -> x.count(3));
        add("event", 0, x -> x.event(0, 2));
        add("fault", 16, x -> x.fault(0));
        for (Case each : cases) {
            compare(each);
        }
    }

    // ---- changes

    /** "The changes are the calls of unit, fail, repair, recipe, ...": each can be undone, and is one state. */
    private void changesAreKept() {
        add("unit", 6, x -> x.unit(3, 3));
        add("fail with a batch", 1, x -> x.fail(0));
        add("fail with a batch that has a piece", 7, x -> x.fail(5));
        add("fail without a batch", -4, x -> x.fail(3));
        add("repair", 0, x -> x.repair(4));
        add("recipe", RefusalTest::recipeAhead, 2, x -> x.recipe(2));
        add("batch", 8, x -> x.batch(0, 1, 1, 1));
        add("start", 3, x -> x.start(0));
        add("hold", 2, x -> x.hold(1));
        add("hold of one that has a piece", 2, x -> x.hold(7));
        add("restart", 2, x -> x.restart(2));
        add("stop under way", 3, x -> x.stop(1));
        add("stop at once", 4, x -> x.stop(2));
        add("abort", 1, x -> x.abort(3));
        add("abort of one that has a piece", 1, x -> x.abort(7));
        add("priority", 3, x -> x.priority(7, 9));
        add("the same priority", 0, x -> x.priority(0, 0));
        add("setCleaning", 2, x -> x.setCleaning(9));
        add("the same cleaning", 2, x -> x.setCleaning(2));
        add("run", 0, x -> x.run(7));
        for (Case each : cases) {
            changeAndUndo(each);
        }
    }

    private static BatchExecutive recipeAhead() {
        BatchExecutive x = Scene.states();
        Due.recipe(x, 2, "m3s1;");
        Due.write(x, "r9;");
        x.setCleaning(3);
        x.setCleaning(4);
        return x;
    }

    private void changeAndUndo(Case each) {
        BatchExecutive called = each.scene.get();
        BatchExecutive twin = each.scene.get();
        for (BatchExecutive x : new BatchExecutive[] {called, twin}) {
            x.undo();
            x.undo();
        }
        due.is("states ahead of " + each.name, called.count(14), 2);
        due.is(each.name, each.call.applyAsInt(called), each.want);
        due.is("states behind " + each.name, called.count(14), 3);
        due.is("undo of " + each.name, called.undo(), 2);
        due.holds("all is as before " + each.name, Look.at(called).equals(Look.at(twin)));
    }

    /** "The changes are the calls of ..." All other calls are none. */
    private static void othersAreNoChanges(Due due) {
        BatchExecutive x = many();
        x.undo();
        x.undo();
        x.type('y');
        x.clearText();
        x.unitInfo(0, 0);
        x.shared(0);
        x.versions(0);
        x.phase(0, 1, 0, 0);
        x.batchInfo(0, 0);
        x.waits(1);
        x.inOrder(0);
        x.ticksTo(1);
        x.count(0);
        x.event(0, 0);
        x.fault(0);
        due.is("states", x.count(14), 2);
        due.is("under way", x.batchInfo(7, 9), 1);
        due.is("undo of the last change but these", x.undo(), 1);
        due.is("that was a run", x.batchInfo(7, 9), 0);
    }

    /** "An object is used for at most 512 calls": the 512th answers like the first. */
    private static void theLastCall(Due due) {
        BatchExecutive x = new BatchExecutive();
        for (int call = 1; call <= 510; call++) {
            x.setCleaning(call % 31);
        }
        due.is("call 511", x.setCleaning(7), 510 % 31);
        due.is("call 512", x.undo(), 3);
    }
}
