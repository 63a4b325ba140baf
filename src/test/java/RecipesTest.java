/** Promises 8 to 10: recipe, versions, phase. */
public final class RecipesTest {
    public static void main(String[] args) {
        Due due = new Due("RecipesTest");
        recipe(due);
        versions(due);
        phase(due);
        undoneVersions(due);
        due.end();
    }

    private static void recipe(Due due) {
        BatchExecutive x = new BatchExecutive();
        due.is("recipe with an empty text", x.recipe(0), -2);
        due.is("recipe -1 with an empty text", x.recipe(-1), -1);
        Due.write(x, "m1;r2;");
        due.is("recipe 6", x.recipe(6), -1);
        due.is("recipe of least int", x.recipe(Integer.MIN_VALUE), -1);
        due.is("no change", x.count(14), 0);
        due.is("the first version", x.recipe(5), 1);
        due.is("the text stays", x.count(15), 6);
        for (int version = 2; version <= 9; version++) {
            due.is("version " + version, x.recipe(5), version);
        }
        due.is("a tenth version", x.recipe(5), -3);
        due.is("another recipe has its own numbers", x.recipe(0), 1);
        x.type('x');
        due.is("a text with a fault rather than the limit", x.recipe(5), -2);
    }

    private static void versions(Due due) {
        BatchExecutive x = new BatchExecutive();
        due.is("versions(-1)", x.versions(-1), -1);
        due.is("versions(6)", x.versions(6), -1);
        due.is("versions(0)", x.versions(0), 0);
        due.is("versions(5)", x.versions(5), 0);
        Due.recipe(x, 5, "m1;");
        Due.recipe(x, 5, "m2;");
        due.is("two versions", x.versions(5), 2);
        due.is("of that recipe alone", x.versions(4), 0);
    }

    private static void phase(Due due) {
        BatchExecutive x = new BatchExecutive();
        due.is("phase of no version", x.phase(0, 1, 0, 0), -1);
        Due.recipe(x, 2, "m7;r99s2y005a;f01s0;p5y100;");
        Due.recipe(x, 2, "p1a;");
        int[][] want = {{0, 7, -4, 100, 0}, {1, 99, 2, 5, 1}, {2, 1, 0, 100, 0}, {3, 5, -4, 100, 0}};
        for (int phase = 0; phase < 4; phase++) {
            for (int what = 0; what < 5; what++) {
                due.is("phase(2, 1, " + phase + ", " + what + ")", x.phase(2, 1, phase, what), want[phase][what]);
            }
        }
        due.is("the second version", x.phase(2, 2, 0, 0), 3);
        due.is("its mark", x.phase(2, 2, 0, 4), 1);
        due.is("a phase too many", x.phase(2, 1, 4, 0), -4);
        due.is("a phase far too many", x.phase(2, 2, Integer.MAX_VALUE, 0), -4);
        due.is("a longer version's phase", x.phase(2, 2, 1, 0), -4);
        due.is("phase -1", x.phase(2, 1, -1, 0), -1);
        due.is("what -1", x.phase(2, 1, 0, -1), -1);
        due.is("what 5", x.phase(2, 1, 9, 5), -1);
        due.is("version 0", x.phase(2, 0, 0, 0), -1);
        due.is("version 3", x.phase(2, 3, 0, 0), -1);
        due.is("recipe -1", x.phase(-1, 1, 0, 0), -1);
        due.is("recipe 6", x.phase(6, 1, 0, 0), -1);
        due.is("a recipe without versions", x.phase(3, 1, 0, 0), -1);
        eightPhases(due);
    }

    private static void eightPhases(Due due) {
        BatchExecutive x = new BatchExecutive();
        Due.write(x, "m1;r2;f3;p4;m5;r6;f7;p8;");
        for (int version = 1; version <= 9; version++) {
            x.recipe(5);
        }
        due.is("the very last phase", x.phase(5, 9, 7, 1), 8);
        due.is("the one behind it", x.phase(5, 9, 8, 1), -4);
    }

    /** A version that undo took back is made anew from another text. */
    private static void undoneVersions(Due due) {
        BatchExecutive x = new BatchExecutive();
        x.unit(0, 5);
        Due.recipe(x, 0, "m1;");
        x.batch(0, 5, 0, -1);
        Due.recipe(x, 0, "m2;m3;");
        due.is("a batch of the second version", x.batch(0, 5, 0, -1), 1);
        due.is("undo of the batch", x.undo(), 3);
        due.is("undo of the version", x.undo(), 2);
        due.is("one version is left", x.versions(0), 1);
        due.is("the second is gone", x.phase(0, 2, 0, 0), -1);
        due.is("the text is not undone", x.count(15), 6);
        due.is("the second one anew", Due.recipe(x, 0, "r9;"), 2);
        due.is("its length", x.phase(0, 2, 0, 1), 9);
        due.is("its end", x.phase(0, 2, 1, 1), -4);
        due.is("the first is as it was", x.phase(0, 1, 0, 1), 1);
        due.is("the batch has the first still", x.batchInfo(0, 1), 1);
        due.is("a new one has the second", x.batchInfo(x.batch(0, 1, 1, -1), 7), 9);
    }
}
