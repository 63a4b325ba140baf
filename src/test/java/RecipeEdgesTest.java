/** "Recipes" and promises 8 to 10, edge by edge, each sentence above its own test. */
public final class RecipeEdgesTest {
    private static final String EIGHT = "m1;r2;f3;p4;m5;r6;f7;p8;";

    public static void main(String[] args) {
        Due due = new Due("RecipeEdgesTest");
        sixRecipes(due);
        atMostNineVersions(due);
        eachVersionHasItsOwnPhases(due);
        noneAtFirst(due);
        oneToEightPhases(due);
        durations(due);
        yields(due);
        pieces(due);
        marks(due);
        oneUnitForOneKind(due);
        anotherKindBetween(due);
        theTextStays(due);
        textWithAFault(due);
        emptyText(due);
        versionsOutOfRange(due);
        phaseOfNoRecipe(due);
        phaseOfNoVersion(due);
        phaseBelowZero(due);
        phaseOfNothing(due);
        notSoManyPhases(due);
        noPieceNeeded(due);
        due.end();
    }

    /** "There are 6 recipes, 0 to 5." "INVALID_ARGUMENT if recipe is out of range". */
    private static void sixRecipes(Due due) {
        Scene.range(due, "recipe", 0, 5, (x, recipe) -> {
            Due.write(x, "m1;");
            return x.recipe(recipe);
        });
        BatchExecutive x = Due.withText("m1;");
        for (int recipe = 0; recipe <= 5; recipe++) {
            due.is("first version of " + recipe, x.recipe(recipe), 1);
        }
    }

    /** "A recipe has versions, numbered from 1; ... at most 9." "LIMIT_REACHED if it has 9 versions." */
    private static void atMostNineVersions(Due due) {
        BatchExecutive x = Due.withText("m1;");
        for (int version = 1; version <= 9; version++) {
            due.is("version", x.recipe(3), version);
            due.is("the latest", x.versions(3), version);
        }
        due.is("a tenth", x.recipe(3), -3);
        due.is("the latest is the ninth", x.versions(3), 9);
        due.is("another recipe has its own", x.recipe(2), 1);
        x.undo();
        x.undo();
        due.is("undo makes room", x.versions(3), 8);
        due.is("for the ninth", x.recipe(3), 9);
        due.is("and no more", x.recipe(3), -3);
    }

    /** "There are 6 recipes", "at most 9" versions: all 54 of them, each with phases of its own. */
    private static void eachVersionHasItsOwnPhases(Due due) {
        BatchExecutive x = new BatchExecutive();
        for (int number = 1; number <= 54; number++) {
            due.is("version", Due.recipe(x, (number - 1) / 9, "r" + number + ";"), (number - 1) % 9 + 1);
        }
        for (int number = 1; number <= 54; number++) {
            due.is("its duration", x.phase((number - 1) / 9, (number - 1) % 9 + 1, 0, 1), number);
        }
    }

    /** "it has none at first"; "0 if there is none". */
    private static void noneAtFirst(Due due) {
        BatchExecutive x = Due.withText("m1;");
        for (int recipe = 0; recipe <= 5; recipe++) {
            due.is("versions of " + recipe, x.versions(recipe), 0);
        }
        x.recipe(0);
        due.is("recipe 0 has one", x.versions(0), 1);
        due.is("recipe 1 has none still", x.versions(1), 0);
        x.undo();
        due.is("none again", x.versions(0), 0);
    }

    /** "A version has 1 to 8 phases, numbered from 0." */
    private static void oneToEightPhases(Due due) {
        BatchExecutive x = new BatchExecutive();
        for (int phases = 1; phases <= 8; phases++) {
            int version = Due.recipe(x, 5, EIGHT.substring(0, 3 * phases));
            due.is("version of " + phases + " phases", version, phases);
            due.is("its first", x.phase(5, version, 0, 1), 1);
            due.is("its last", x.phase(5, version, phases - 1, 1), phases);
            due.is("none behind", x.phase(5, version, phases, 1), -4);
        }
        due.is("nine phases", Due.recipe(x, 5, EIGHT + "m9;"), -2);
        due.is("no phase", Due.recipe(x, 5, ""), -2);
    }

    /** "a duration (1 to 99 ticks)". */
    private static void durations(Due due) {
        BatchExecutive x = new BatchExecutive();
        due.is("0", Due.recipe(x, 0, "m0;"), -2);
        due.is("1", Due.recipe(x, 0, "m1;"), 1);
        due.is("99", Due.recipe(x, 0, "m99;"), 2);
        due.is("100", Due.recipe(x, 0, "m100;"), -2);
        due.is("the least", x.phase(0, 1, 0, 1), 1);
        due.is("the greatest", x.phase(0, 2, 0, 1), 99);
    }

    /** "a yield (1 to 100 percent)"; "(otherwise it is 100)". */
    private static void yields(Due due) {
        BatchExecutive x = new BatchExecutive();
        due.is("0", Due.recipe(x, 0, "m1y0;"), -2);
        due.is("1", Due.recipe(x, 0, "m1y1;"), 1);
        due.is("100", Due.recipe(x, 0, "m1y100;"), 2);
        due.is("101", Due.recipe(x, 0, "m1y101;"), -2);
        due.is("none told", Due.recipe(x, 0, "m1;"), 3);
        due.is("the least", x.phase(0, 1, 0, 3), 1);
        due.is("the greatest", x.phase(0, 2, 0, 3), 100);
        due.is("otherwise", x.phase(0, 3, 0, 3), 100);
    }

    /** "possibly a piece of shared equipment": 0 to 2. */
    private static void pieces(Due due) {
        BatchExecutive x = new BatchExecutive();
        for (int piece = 0; piece <= 2; piece++) {
            int version = Due.recipe(x, 0, "m1s" + piece + ";");
            due.is("piece", x.phase(0, version, 0, 2), piece);
        }
        due.is("a fourth piece", Due.recipe(x, 0, "m1s3;"), -2);
    }

    /** "a mark whether it begins again"; "4: 1 if it has the mark, otherwise 0". */
    private static void marks(Due due) {
        BatchExecutive x = Due.withText("m1a;m1;m1a;");
        x.recipe(0);
        for (int phase = 0; phase < 3; phase++) {
            due.is("mark of " + phase, x.phase(0, 1, phase, 4), phase == 1 ? 0 : 1);
        }
    }

    /** "Phases of one kind that follow on one another are done in one unit." */
    private static void oneUnitForOneKind(Due due) {
        BatchExecutive x = Scene.of("m1;m2;m1;", 0, 0);
        x.fail(0);
        Scene.go(x);
        x.run(1);
        x.repair(0);
        for (int tick = 1; tick < 4; tick++) {
            due.is("its unit", x.batchInfo(0, 8), 1);
            x.run(1);
        }
        due.is("complete", x.batchInfo(0, 5), 6);
        due.is("the one unit worked for all", x.unitInfo(1, 5), 4);
        due.is("a lower one, free by then, did not", x.unitInfo(0, 5), 0);
        due.is("one unit got, three ends, and complete", x.count(13), 5);
    }

    /** The same, with another kind between: the unit is given up, and another one can be got. */
    private static void anotherKindBetween(Due due) {
        BatchExecutive x = Scene.of("m1;r1;m1;", 0, 1, 0);
        x.setCleaning(3);
        Scene.go(x);
        due.is("complete", x.run(3), 1);
        due.is("the first mixer", x.unitInfo(0, 5), 1);
        due.is("the reactor", x.unitInfo(1, 5), 1);
        due.is("the second mixer, while the first is cleaned", x.unitInfo(2, 5), 1);
        due.is("three units got, three ends, and complete", x.count(13), 7);
    }

    /** "Makes the phases of the text, which stays, the next version of a recipe." */
    private static void theTextStays(Due due) {
        BatchExecutive x = Due.withText("m1;");
        x.recipe(0);
        due.is("its length", x.count(15), 3);
        due.is("it goes on", x.type('r'), 4);
        due.is("now with a fault", x.recipe(0), -2);
        x.type('7');
        x.type(';');
        due.is("now without", x.recipe(0), 2);
        due.is("its second phase", x.phase(0, 2, 1, 1), 7);
        due.is("the first version has none", x.phase(0, 1, 1, 1), -4);
    }

    /** "NOT_POSSIBLE if the text has a fault": each of the reasons. */
    private static void textWithAFault(Due due) {
        String[] texts = {"x", "m0;", "m1", EIGHT + "m"};
        for (int reason = 1; reason <= 4; reason++) {
            BatchExecutive x = Due.withText(texts[reason - 1]);
            due.is("its reason", x.fault(1), reason);
            due.is("recipe", x.recipe(0), -2);
            due.is("no version", x.versions(0), 0);
        }
    }

    /** "(An empty text ends too early.)" So it makes no version. */
    private static void emptyText(Due due) {
        BatchExecutive x = new BatchExecutive();
        due.is("recipe of an empty text", x.recipe(0), -2);
        Due.recipe(x, 0, "m1;");
        x.clearText();
        due.is("recipe of an emptied text", x.recipe(0), -2);
    }

    /** "recipe: 0 to 5": of versions. */
    private static void versionsOutOfRange(Due due) {
        Scene.range(due, "versions", 0, 5, (x, recipe) -> x.versions(recipe));
    }

    /** "recipe: 0 to 5": of phase; those that have a version, and those that have none. */
    private static void phaseOfNoRecipe(Due due) {
        BatchExecutive x = Due.withText("m7;");
        x.recipe(0);
        x.recipe(5);
        due.is("the first recipe", x.phase(0, 1, 0, 1), 7);
        due.is("the last recipe", x.phase(5, 1, 0, 1), 7);
        for (int recipe : new int[] {Integer.MIN_VALUE, -1, 1, 4, 6, Integer.MAX_VALUE}) {
            due.is("recipe " + recipe, x.phase(recipe, 1, 0, 1), -1);
        }
    }

    /** "version: number of a version of it": "If there is no ... version ..., this is INVALID_ARGUMENT." */
    private static void phaseOfNoVersion(Due due) {
        BatchExecutive x = Due.withText("m7;");
        x.recipe(1);
        x.recipe(1);
        x.recipe(2);
        for (int version : new int[] {Integer.MIN_VALUE, -1, 0, 3, 9, 10, Integer.MAX_VALUE}) {
            due.is("version " + version, x.phase(1, version, 0, 1), -1);
        }
        due.is("the latest", x.phase(1, 2, 0, 1), 7);
        due.is("none of the next recipe", x.phase(2, 2, 0, 1), -1);
        due.is("none of the one ahead", x.phase(0, 1, 0, 1), -1);
    }

    /** "INVALID_ARGUMENT if an argument is out of range (phase: negative)". */
    private static void phaseBelowZero(Due due) {
        BatchExecutive x = Due.withText("m7;");
        x.recipe(1);
        x.recipe(1);
        due.is("phase -1", x.phase(1, 2, -1, 1), -1);
        due.is("phase -8", x.phase(1, 2, -8, 1), -1);
        due.is("the least phase", x.phase(1, 2, Integer.MIN_VALUE, 1), -1);
        due.is("phase 0", x.phase(1, 2, 0, 1), 7);
    }

    /** "INVALID_ARGUMENT if an argument is out of range": what, 0 to 4. */
    private static void phaseOfNothing(Due due) {
        BatchExecutive x = Due.withText("m7;");
        x.recipe(1);
        for (int what : new int[] {Integer.MIN_VALUE, -1, 5, Integer.MAX_VALUE}) {
            due.is("what " + what, x.phase(1, 1, 0, what), -1);
        }
        due.is("what 0", x.phase(1, 1, 0, 0), 0);
        due.is("what 4", x.phase(1, 1, 0, 4), 0);
    }

    /** "NOT_FOUND if there are not so many phases". */
    private static void notSoManyPhases(Due due) {
        BatchExecutive x = Due.withText(EIGHT);
        x.recipe(0);
        Due.recipe(x, 0, "m1;");
        Due.recipe(x, 0, EIGHT);
        for (int what = 0; what <= 4; what++) {
            due.is("a ninth of eight", x.phase(0, 1, 8, what), -4);
            due.is("a second of one", x.phase(0, 2, 1, what), -4);
            due.is("the greatest", x.phase(0, 3, Integer.MAX_VALUE, what), -4);
        }
        due.is("the eighth of eight", x.phase(0, 1, 7, 1), 8);
    }

    /** "NOT_FOUND ..., for 2 if it needs none", and piece 0 is one. */
    private static void noPieceNeeded(Due due) {
        BatchExecutive x = Due.withText("m1s0;m1;");
        x.recipe(0);
        due.is("piece 0", x.phase(0, 1, 0, 2), 0);
        due.is("none", x.phase(0, 1, 1, 2), -4);
    }
}
