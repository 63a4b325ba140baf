/**
 * Long walks of calls beside the model: every call is made on both, and every answer must be the
 * same. The choices come from a generator of its own with fixed seeds, so each run is the same.
 */
public final class WalkTest {
    private static final int WALKS = 1900;
    /** The last step may take some 110 more, and behind 512 of them every answer is free. */
    private static final int CALLS = 400;
    private static final int[] ODD = {Integer.MIN_VALUE, -5, -1, 12, 13, 100, 127, 501, 10001, 50000, Integer.MAX_VALUE};

    private final Due due;
    private final BatchExecutive x = new BatchExecutive();
    private final Model model = new Model();
    private final int style;
    private long seed;
    private int calls;
    private String lately = "";

    private WalkTest(Due due, int walk) {
        this.due = due;
        this.seed = walk * 7919L + 17;
        this.style = walk % 4;
    }

    public static void main(String[] args) {
        Due due = new Due("WalkTest");
        for (int walk = 0; walk < WALKS; walk++) {
            new WalkTest(due, walk).go();
        }
        texts(due);
        due.end();
    }

    /** Short texts of few letters, since faults stand close together there. */
    private static void texts(Due due) {
        String letters = "mf09s2y1a;";
        for (int number = 0; number < 1000000; number += 13) {
            StringBuilder text = new StringBuilder();
            for (int rest = number; rest > 0; rest /= 10) {
                text.append(letters.charAt(rest % 10));
            }
            compareText(due, "m1;" + text);
            compareText(due, "m1y" + text);
            compareText(due, "m1;m1;m1;m1;m1;m1;m1;" + text);
        }
    }

    private static void compareText(Due due, String text) {
        BatchExecutive x = Due.withText(text);
        int[] fault = Model.faultOf(text);
        due.is("fault(0) of " + text, x.fault(0), fault == null ? -4 : fault[0]);
        due.is("fault(1) of " + text, x.fault(1), fault == null ? -4 : fault[1]);
    }

    private void go() {
        for (int units = below(8); units > 0; units--) {
            unit();
        }
        recipe();
        while (calls < CALLS) {
            step();
        }
    }

    private void same(String call, int got, int want) {
        calls++;
        lately = lately.length() > 2000 ? lately.substring(1000) : lately;
        lately = lately + " " + call;
        due.is(got == want ? call : call + " behind" + lately, got, want);
    }

    private void step() {
        int choice = below(100);
        if (choice < 3) {
            unit();
        } else if (choice < 6) {
            recipe();
        } else if (choice < 15) {
            batch();
        } else if (choice < 48) {
            command(below(style == 0 ? 7 : 9));
        } else if (choice < 60) {
            int ticks = style == 3 ? argument(501) : argument(8);
            same("run(" + ticks + ")", x.run(ticks), model.run(ticks));
        } else if (choice < 61 + style) {
            same("undo()", x.undo(), model.undo());
        } else {
            question(below(11));
        }
    }

    private void unit() {
        int kind = argument(4);
        int capacity = below(9) == 0 ? argument(10001) : 50 + below(100);
        same("unit(" + kind + ", " + capacity + ")", x.unit(kind, capacity), model.unit(kind, capacity));
    }

    private void batch() {
        int recipe = argument(2);
        int size = below(9) == 0 ? argument(10001) : 1 + below(99);
        int priority = argument(10);
        int before = below(2) == 0 ? -1 : argument(12);
        same("batch(" + recipe + ", " + size + ", " + priority + ", " + before + ")",
                x.batch(recipe, size, priority, before), model.batch(recipe, size, priority, before));
    }

    private void recipe() {
        if (below(4) > 0) {
            same("clearText()", x.clearText(), model.clearText());
            String text = randomText();
            for (int at = 0; at < text.length(); at++) {
                int character = text.charAt(at);
                same("type(" + character + ")", x.type(character), model.type(character));
            }
        }
        if (below(20) == 0) {
            int character = argument(130);
            same("type(" + character + ")", x.type(character), model.type(character));
        }
        same("fault(0)", x.fault(0), model.fault(0));
        same("fault(1)", x.fault(1), model.fault(1));
        int recipe = below(9) == 0 ? argument(6) : below(2);
        same("recipe(" + recipe + ")", x.recipe(recipe), model.recipe(recipe));
    }

    private String randomText() {
        StringBuilder text = new StringBuilder();
        for (int phases = 1 + below(below(9) == 0 ? 9 : 4); phases > 0; phases--) {
            text.append("mrfp".charAt(below(below(2) == 0 ? 2 : 4))).append(below(9) == 0 ? below(100) : 1 + below(6));
            if (below(2) == 0) {
                text.append('s').append(below(30) == 0 ? 3 : below(3));
            }
            if (below(2) == 0) {
                text.append('y').append(below(30) == 0 ? below(1000) : 50 + below(50));
            }
            text.append(below(3) == 0 ? "a;" : ";");
        }
        return text.toString();
    }

    private void command(int which) {
        int batch = argument(12);
        int unit = argument(8);
        int value = argument(which == 6 ? 31 : 10);
        switch (which) {
            case 0: same("start(" + batch + ")", x.start(batch), model.start(batch)); break;
            case 1: same("restart(" + batch + ")", x.restart(batch), model.restart(batch)); break;
            case 2: same("start(" + batch + ")", x.start(batch), model.start(batch)); break;
            case 3: same("hold(" + batch + ")", x.hold(batch), model.hold(batch)); break;
            case 4: same("repair(" + unit + ")", x.repair(unit), model.repair(unit)); break;
            case 5: same("priority(" + batch + ", " + value + ")", x.priority(batch, value), model.priority(batch, value)); break;
            case 6: same("setCleaning(" + value + ")", x.setCleaning(value), model.setCleaning(value)); break;
            case 7: same("fail(" + unit + ")", x.fail(unit), model.fail(unit)); break;
            default: end(batch); break;
        }
    }

    private void end(int batch) {
        if (below(3) > 0) {
            same("stop(" + batch + ")", x.stop(batch), model.stop(batch));
        } else {
            same("abort(" + batch + ")", x.abort(batch), model.abort(batch));
        }
    }

    private void question(int which) {
        int batch = argument(12);
        int what = argument(18);
        switch (which) {
            case 0: int u = argument(8);
                same("unitInfo(" + u + ", " + what % 8 + ")", x.unitInfo(u, what % 8), model.unitInfo(u, what % 8)); break;
            case 1: int piece = argument(3);
                same("shared(" + piece + ")", x.shared(piece), model.shared(piece)); break;
            case 2: phase(); break;
            case 3: case 4: case 5:
                same("batchInfo(" + batch + ", " + what % 13 + ")", x.batchInfo(batch, what % 13), model.batchInfo(batch, what % 13)); break;
            case 6: same("waits(" + batch + ")", x.waits(batch), model.waits(batch)); break;
            case 7: int place = argument(12);
                same("inOrder(" + place + ")", x.inOrder(place), model.inOrder(place)); break;
            case 8: same("count(" + what + ")", x.count(what), model.count(what)); break;
            case 9: int index = argument(41);
                same("event(" + index + ", " + what % 4 + ")", x.event(index, what % 4), model.event(index, what % 4)); break;
            default: ticksTo(batch); break;
        }
    }

    private void phase() {
        int recipe = below(9) == 0 ? argument(6) : below(2);
        int version = argument(10);
        int number = argument(8);
        int what = argument(6);
        same("versions(" + recipe + ")", x.versions(recipe), model.versions(recipe));
        same("phase(" + recipe + ", " + version + ", " + number + ", " + what + ")",
                x.phase(recipe, version, number, what), model.phase(recipe, version, number, what));
    }

    /** Seldom, since the model looks 2000 ticks ahead even when all stand still. */
    private void ticksTo(int batch) {
        if (below(4) == 0) {
            same("ticksTo(" + batch + ")", x.ticksTo(batch), model.ticksTo(batch));
        }
    }

    private int argument(int bound) {
        return below(25) == 0 ? ODD[below(ODD.length)] : below(bound);
    }

    private int below(int bound) {
        seed = seed * 6364136223846793005L + 1442695040888963407L;
        return (int) ((seed >>> 33) % bound);
    }
}
