/** Promises 26 to 28: type, clearText, fault. */
public final class TextsTest {
    public static void main(String[] args) {
        Due due = new Due("TextsTest");
        type(due);
        clearText(due);
        faultless(due);
        cannotStand(due);
        outOfRange(due);
        tooEarly(due);
        tooMany(due);
        wrongWhat(due);
        due.end();
    }

    private static void type(Due due) {
        BatchExecutive x = new BatchExecutive();
        due.is("type(31)", x.type(31), -1);
        due.is("type(127)", x.type(127), -1);
        due.is("type(-1)", x.type(-1), -1);
        due.is("type(max)", x.type(Integer.MAX_VALUE), -1);
        due.is("type(32)", x.type(32), 1);
        due.is("type(126)", x.type(126), 2);
        for (int length = 3; length <= 100; length++) {
            due.is("type to " + length, x.type('a'), length);
        }
        due.is("one more", x.type('a'), -3);
        due.is("out of range rather than the limit", x.type(127), -1);
        due.is("length", x.count(15), 100);
        due.is("no change", x.count(14), 0);
    }

    private static void clearText(Due due) {
        BatchExecutive x = Due.withText("m1;");
        due.is("clearText", x.clearText(), 3);
        due.is("clearText again", x.clearText(), 0);
        due.is("it is empty", x.fault(1), 3);
        due.is("no change", x.count(14), 0);
    }

    private static void fault(Due due, String text, int place, int reason) {
        BatchExecutive x = Due.withText(text);
        due.is("fault(0) of " + text, x.fault(0), place);
        due.is("fault(1) of " + text, x.fault(1), reason);
        due.is("recipe of " + text, x.recipe(0), reason == -4 ? 1 : -2);
    }

    private static void faultless(Due due) {
        String[] texts = {"m1;", "r01;", "f99;", "p9s0;", "m1s1y1;", "m10s2y100a;", "m1a;", "m1y007;", "m1y07a;",
            "m1;m1;m1;m1;m1;m1;m1;m1;", "m1y100;r2;"};
        for (String text : texts) {
            fault(due, text, -4, -4);
        }
    }

    private static void cannotStand(Due due) {
        fault(due, " ", 0, 1);
        fault(due, "M1;", 0, 1);
        fault(due, "1;", 0, 1);
        fault(due, ";", 0, 1);
        fault(due, "m;", 1, 1);
        fault(due, "ms1;", 1, 1);
        fault(due, "m-1;", 1, 1);
        fault(due, "m999;", 3, 1);
        fault(due, "m1 ;", 2, 1);
        fault(due, "m1s3;", 3, 1);
        fault(due, "m1s;", 3, 1);
        fault(due, "m1s/;", 3, 1);
        fault(due, "m1s11;", 4, 1);
        fault(due, "m1s1s1;", 4, 1);
        fault(due, "m1y;", 3, 1);
        fault(due, "m1ya;", 3, 1);
        fault(due, "m1y1000;", 6, 1);
        fault(due, "m1y0010;", 6, 1);
        fault(due, "m1y1y1;", 4, 1);
        fault(due, "m1y1s1;", 4, 1);
        fault(due, "m1as1;", 3, 1);
        fault(due, "m1aa;", 3, 1);
        fault(due, "m1a1;", 3, 1);
        fault(due, "m1;;", 3, 1);
        fault(due, "m1;x", 3, 1);
        fault(due, "m1m1;", 2, 1);
    }

    private static void outOfRange(Due due) {
        fault(due, "m0", 1, 2);
        fault(due, "m0;", 1, 2);
        fault(due, "m00", 1, 2);
        fault(due, "m000", 1, 2);
        fault(due, "m0x", 1, 2);
        fault(due, "m1y0;", 3, 2);
        fault(due, "m1y00", 3, 2);
        fault(due, "m1y000;", 3, 2);
        fault(due, "m1y101;", 3, 2);
        fault(due, "m1y999x", 3, 2);
        fault(due, "m1y9999", 3, 2);
        fault(due, "m1;m0;", 4, 2);
        fault(due, "m0;x", 1, 2);
    }

    private static void tooEarly(Due due) {
        fault(due, "", 0, 3);
        fault(due, "m", 1, 3);
        fault(due, "m1", 2, 3);
        fault(due, "m99", 3, 3);
        fault(due, "m1s", 3, 3);
        fault(due, "m1s0", 4, 3);
        fault(due, "m1y", 3, 3);
        fault(due, "m1y1", 4, 3);
        fault(due, "m1y100", 6, 3);
        fault(due, "m1a", 3, 3);
        fault(due, "m1;r", 4, 3);
        fault(due, "m1;m1;m1;m1;m1;m1;m1;m1", 23, 3);
    }

    private static void tooMany(Due due) {
        String eight = "m1;m1;m1;m1;m1;m1;m1;m1;";
        fault(due, eight + "m", 24, 4);
        fault(due, eight + "p1;", 24, 4);
        fault(due, eight + "r0;", 24, 4);
        fault(due, eight + "x", 24, 1);
        fault(due, eight + ";", 24, 1);
        fault(due, "m1;m1;m1;m1;m1;m1;m1;m0;f", 22, 2);
        String longest = "m99s2y100a;m99s2y100a;m99s2y100a;m99s2y100a;m99s2y100a;m99s2y100a;m99s2y100a;m99s2y100a;";
        fault(due, longest, -4, -4);
        fault(due, longest + "m99s2y100a;m", 88, 4);
    }

    private static void wrongWhat(Due due) {
        BatchExecutive x = Due.withText("m1;");
        due.is("fault(-1)", x.fault(-1), -1);
        due.is("fault(2)", x.fault(2), -1);
        due.is("fault(0) of none", x.fault(0), -4);
    }
}
