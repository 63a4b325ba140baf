/** Counts the answers that are not as due, and prints them. */
final class Due {
    private final String test;
    private int asked;
    private int wrong;

    Due(String test) {
        this.test = test;
    }

    void is(String call, int got, int want) {
        asked++;
        if (got != want) {
            wrong++;
            System.out.println(test + ": " + call + " answered " + got + ", due is " + want);
        }
    }

    void holds(String what, boolean holds) {
        is(what, holds ? 1 : 0, 1);
    }

    /** Ends the program with 1 if an answer was wrong. */
    void end() {
        System.out.println(test + ": " + asked + " answers, " + wrong + " wrong");
        if (wrong > 0) {
            System.exit(1);
        }
    }

    /** An executive whose text is the given one. */
    static BatchExecutive withText(String text) {
        BatchExecutive x = new BatchExecutive();
        write(x, text);
        return x;
    }

    static void write(BatchExecutive x, String text) {
        x.clearText();
        for (int at = 0; at < text.length(); at++) {
            x.type(text.charAt(at));
        }
    }

    /** Makes the text the next version of a recipe and returns the answer. */
    static int recipe(BatchExecutive x, int recipe, String text) {
        write(x, text);
        return x.recipe(recipe);
    }
}
