/** "Texts" and promises 26 to 28, edge by edge, each sentence above its own test. */
public final class TextEdgesTest {
    private static final String EIGHT = "m1;m1;m1;m1;m1;m1;m1;m1;";
    private static final String LONG = "m99s2y100a;";

    private final Due due;

    private TextEdgesTest(Due due) {
        this.due = due;
    }

    public static void main(String[] args) {
        Due due = new Due("TextEdgesTest");
        TextEdgesTest test = new TextEdgesTest(due);
        test.typeOutOfRange();
        test.typeAtTheLimit();
        test.clearReturnsTheLength();
        test.clearedCharactersAreGone();
        test.faultOutOfRange();
        test.noFault();
        test.emptyText();
        test.letters();
        test.durationDigits();
        test.durationRange();
        test.furtherDigitOfTheDuration();
        test.pieces();
        test.yieldDigits();
        test.yieldRange();
        test.furtherDigitOfTheYield();
        test.marks();
        test.orderOfTheParts();
        test.zerosAhead();
        test.endsTooEarly();
        test.endsTooEarlyInALaterPhase();
        test.numberEndsWithTheText();
        test.numberEndsAheadOfAnother();
        test.numberEndsBehindItsMostDigits();
        test.ninthPhase();
        test.ninthPhaseIsNoLetter();
        test.firstFaultCounts();
        test.longestTexts();
        test.everyCharacterAtEveryPlace();
        due.end();
    }

    private void fault(String text, int place, int reason) {
        BatchExecutive x = Due.withText(text);
        due.is("fault(0) of \"" + text + "\"", x.fault(0), place);
        due.is("fault(1) of \"" + text + "\"", x.fault(1), reason);
    }

    private void none(String text) {
        fault(text, -4, -4);
    }

    /** "character: its code, 32 to 126"; "INVALID_ARGUMENT if character is out of range". */
    private void typeOutOfRange() {
        Scene.range(due, "type", 32, 126, (x, character) -> x.type(character));
    }

    /** "a text of at most 100 characters, initially empty"; "LIMIT_REACHED if the text has 100 characters." */
    private void typeAtTheLimit() {
        BatchExecutive x = new BatchExecutive();
        due.is("empty at first", x.count(15), 0);
        for (int length = 1; length <= 100; length++) {
            due.is("type", x.type('m'), length);
        }
        due.is("one more", x.type('m'), -3);
        due.is("its length", x.count(15), 100);
        due.is("its fault", x.fault(0) * 10 + x.fault(1), 11);
        due.is("clearText", x.clearText(), 100);
        due.is("from the start", x.type('m'), 1);
    }

    /** "Returns the length it had." */
    private void clearReturnsTheLength() {
        BatchExecutive x = new BatchExecutive();
        due.is("of an empty one", x.clearText(), 0);
        x.type('m');
        due.is("of one character", x.clearText(), 1);
        due.is("of one that is empty again", x.clearText(), 0);
    }

    /** "Empties the text.": what stood behind does not come back. */
    private void clearedCharactersAreGone() {
        BatchExecutive x = Due.withText("m1;");
        due.is("no fault", x.fault(0), -4);
        x.clearText();
        due.is("empty", x.fault(0) * 10 + x.fault(1), 3);
        x.type('r');
        due.is("one letter", x.fault(0) * 10 + x.fault(1), 13);
        x.type('2');
        due.is("and a digit", x.fault(0) * 10 + x.fault(1), 23);
        x.type(';');
        x.recipe(0);
        due.is("what was typed now", x.phase(0, 1, 0, 0) * 10 + x.phase(0, 1, 0, 1), 12);
    }

    /** "what: 0: its position; 1: its reason"; "INVALID_ARGUMENT if what is out of range". */
    private void faultOutOfRange() {
        Scene.range(due, "fault", 0, 1, (x, what) -> x.fault(what));
        Scene.range(due, "fault of none", 0, 1, (x, what) -> {
            Due.write(x, "m1;");
            return x.fault(what);
        });
    }

    /** "NOT_FOUND if the text has no fault." */
    private void noFault() {
        none("m1;");
        none(EIGHT);
    }

    /** "(An empty text ends too early.)" */
    private void emptyText() {
        fault("", 0, 3);
    }

    /** "a letter "m", "r", "f" or "p" (the kinds 0 to 3)": no others, no capitals. */
    private void letters() {
        for (int kind = 0; kind <= 3; kind++) {
            BatchExecutive x = Due.withText("mrfp".charAt(kind) + "1;");
            due.is("no fault", x.fault(0), -4);
            x.recipe(0);
            due.is("its kind", x.phase(0, 1, 0, 0), kind);
        }
        for (char other : "MRFPlnqsegoya01; ~".toCharArray()) {
            fault(other + "1;", 0, 1);
            fault("m1;" + other + "1;", 3, 1);
        }
    }

    /** "the duration with 1 or 2 digits": not with none. */
    private void durationDigits() {
        none("m1;");
        none("m12;");
        for (String rest : new String[] {";", "s1;", "y1;", "a;", "m1;", " 1;", "-1;", "/;", ":;"}) {
            fault("m" + rest, 1, 1);
        }
    }

    /** "a duration (1 to 99 ticks)"; "for a number out of its range, its first digit", reason 2. */
    private void durationRange() {
        fault("m0;", 1, 2);
        none("m1;");
        none("m99;");
        fault("m00;", 1, 2);
        fault("m1;m0;", 4, 2);
    }

    /** "A further digit behind the most that there can be cannot stand there." The duration. */
    private void furtherDigitOfTheDuration() {
        fault("m100;", 3, 1);
        fault("m999;", 3, 1);
        fault("m010;", 3, 1);
        fault("m990", 3, 1);
        fault("m1;r123", 6, 1);
    }

    /** "then possibly "s" and a digit 0 to 2": one digit, no other. */
    private void pieces() {
        none("m1s0;");
        none("m1s2;");
        for (char other : "3456789/:;ya s".toCharArray()) {
            fault("m1s" + other, 3, 1);
        }
        fault("m1s00;", 4, 1);
        fault("m1s12;", 4, 1);
    }

    /** "then possibly "y" and the yield with 1 to 3 digits": not with none. */
    private void yieldDigits() {
        none("m1y1;");
        none("m1y12;");
        none("m1y100;");
        for (char other : ";as y-/:".toCharArray()) {
            fault("m1y" + other, 3, 1);
        }
    }

    /** "a yield (1 to 100 percent)"; "for a number out of its range, its first digit", reason 2. */
    private void yieldRange() {
        fault("m1y0;", 3, 2);
        none("m1y1;");
        none("m1y99;");
        none("m1y100;");
        fault("m1y101;", 3, 2);
        fault("m1y999;", 3, 2);
        fault("m1y00;", 3, 2);
        fault("m1y000;", 3, 2);
        fault("m12s1y101;", 6, 2);
    }

    /** "A further digit behind the most that there can be cannot stand there." The yield. */
    private void furtherDigitOfTheYield() {
        fault("m1y1000;", 6, 1);
        fault("m1y0100;", 6, 1);
        fault("m1y0011;", 6, 1);
    }

    /** "then possibly "a" (the mark)": once. */
    private void marks() {
        none("m1a;");
        none("m1s0a;");
        none("m1y1a;");
        none("m1s0y1a;");
        fault("m1aa;", 3, 1);
        fault("m1A;", 2, 1);
        fault("m1a0;", 3, 1);
    }

    /** "then possibly ... then possibly ... then possibly": in this order, each but once. */
    private void orderOfTheParts() {
        fault("m1y1s1;", 4, 1);
        fault("m1as1;", 3, 1);
        fault("m1ay1;", 3, 1);
        fault("m1s1s1;", 4, 1);
        fault("m1y1y1;", 4, 1);
        fault("m1y100y1;", 6, 1);
        fault("1m;", 0, 1);
        fault("m1m1;", 2, 1);
        fault("m1;;", 3, 1);
        fault(";", 0, 1);
    }

    /** "Zeros may stand ahead." */
    private void zerosAhead() {
        BatchExecutive x = Due.withText("m01y001;m09y010;m10y099;");
        due.is("no fault", x.fault(0), -4);
        x.recipe(0);
        int[][] want = {{1, 1}, {9, 10}, {10, 99}};
        for (int phase = 0; phase < 3; phase++) {
            due.is("duration", x.phase(0, 1, phase, 1), want[phase][0]);
            due.is("yield", x.phase(0, 1, phase, 3), want[phase][1]);
        }
    }

    /** "or its length, if it ends too early", reason 3: behind each character of a phase. */
    private void endsTooEarly() {
        for (int length = 0; length < LONG.length(); length++) {
            fault(LONG.substring(0, length), length, 3);
        }
        none(LONG);
        for (String text : new String[] {"m1", "m1s1", "m1y1", "m1y10", "m1a", "m1s1a"}) {
            fault(text, text.length(), 3);
        }
    }

    /** The same in the eighth phase, and in the ninth there is another fault ahead. */
    private void endsTooEarlyInALaterPhase() {
        String seven = EIGHT.substring(3);
        fault(seven + "m", 22, 3);
        fault(seven + "m1", 23, 3);
        none(seven);
    }

    /** "A number ends ... with the text, and is looked at then": ahead of an end that comes too early. */
    private void numberEndsWithTheText() {
        fault("m0", 1, 2);
        fault("m00", 1, 2);
        fault("m1y0", 3, 2);
        fault("m1y00", 3, 2);
        fault("m1y000", 3, 2);
        fault("m1y101", 3, 2);
        fault("m1y10", 5, 3);
        fault("m9", 2, 3);
    }

    /** "A number ends ... ahead of another character ... and is looked at then, ahead of what follows". */
    private void numberEndsAheadOfAnother() {
        fault("m0x", 1, 2);
        fault("m0s9", 1, 2);
        fault("m00x", 1, 2);
        fault("m1y0x", 3, 2);
        fault("m1y00x", 3, 2);
        fault("m1x", 2, 1);
        fault("m1y1x", 4, 1);
    }

    /** "A number ends behind the most digits that it can have": "in "m000" the first 0 is the fault, 2." */
    private void numberEndsBehindItsMostDigits() {
        fault("m000", 1, 2);
        fault("m000;", 1, 2);
        fault("m001", 1, 2);
        fault("m1y0000", 3, 2);
        fault("m1y0001", 3, 2);
        fault("m1y1010", 3, 2);
        fault("m1y9999", 3, 2);
    }

    /** "and 4, at the letter of a ninth phase, if there are too many." */
    private void ninthPhase() {
        none(EIGHT);
        for (char letter : "mrfp".toCharArray()) {
            fault(EIGHT + letter, 24, 4);
            fault(EIGHT + letter + "1;", 24, 4);
            fault(EIGHT + letter + "0", 24, 4);
            fault(EIGHT + letter + "x", 24, 4);
        }
        fault(EIGHT + EIGHT, 24, 4);
    }

    /** "the first character that cannot stand where it stands": behind eight phases, one that is no letter of a phase. */
    private void ninthPhaseIsNoLetter() {
        for (char other : "x;1sya M".toCharArray()) {
            fault(EIGHT + other, 24, 1);
        }
    }

    /** "the first character that cannot stand where it stands": whatever comes behind it. */
    private void firstFaultCounts() {
        fault("xm0;", 0, 1);
        fault("m0;x", 1, 2);
        fault("m1s3y0;", 3, 1);
        fault("m1y0s3;", 3, 2);
        fault("x" + EIGHT + "m", 0, 1);
        fault("m0" + EIGHT.substring(2) + "m", 1, 2);
        fault(EIGHT.substring(0, 22) + "x;m", 22, 1);
        fault(EIGHT.substring(0, 22) + "0;m", 22, 2);
        fault("m1;x", 3, 1);
    }

    /** "a text of at most 100 characters": eight phases of the greatest length leave room for faults. */
    private void longestTexts() {
        String longest = LONG + LONG + LONG + LONG + LONG + LONG + LONG + LONG;
        none(longest);
        fault(longest + LONG + "m", 88, 4);
        fault(longest + "            ", 88, 1);
        fault(longest.substring(0, 87), 87, 3);
    }

    /** Each of the characters that can be typed, at each place of a phase: just these can stand there. */
    private void everyCharacterAtEveryPlace() {
        String[] canStand = {"mrfp", "0123456789", "0123456789sya;", "sya;", "012", "ya;", "0123456789",
            "0123456789a;", "0123456789a;", "a;", ";"};
        for (int place = 0; place < LONG.length(); place++) {
            for (char each = 32; each <= 126; each++) {
                BatchExecutive x = Due.withText(LONG.substring(0, place) + each);
                boolean refused = x.fault(0) == place && x.fault(1) == 1;
                due.holds(each + " at " + place, refused == (canStand[place].indexOf(each) < 0));
            }
        }
    }
}
