/** Promises 28 to 31: the buffer and its orders. */
final class OrderTextTest {

    private OrderTextTest() {
    }

    private static void errorAt(String text, int due) {
        NestedEnvelopes x = new NestedEnvelopes();
        Check.write(x, text);
        Check.same("firstError() of " + text, x.firstError(), due);
        Check.same("clearText() of " + text, x.clearText(), text.length());
    }

    private static void runs(NestedEnvelopes x, String text, int due) {
        Check.write(x, text);
        Check.same("run() of " + text, x.run(), due);
        Check.same("clearText() after " + text, x.clearText(), 0);
    }

    private static void incomplete(String text) {
        NestedEnvelopes x = Check.withRoad();
        Check.write(x, text);
        Check.argument(x, "run() of " + text, () -> x.run());
        Check.same("clearText() after " + text, x.clearText(), text.length());
    }

    static void promise28_append() {
        NestedEnvelopes x = new NestedEnvelopes();
        Check.same("append(33)", x.append(33), 1);
        Check.same("append(126)", x.append(126), 2);
        Check.argument(x, "append(32)", () -> x.append(32));
        Check.argument(x, "append(127)", () -> x.append(127));
        Check.argument(x, "append(-1)", () -> x.append(-1));
        for (int length = 3; length <= 60; length++) {
            Check.same("append('r')", x.append('r'), length);
        }
        Check.state(x, "append('r') to 60", () -> x.append('r'));
        Check.argument(x, "append(32) to 60", () -> x.append(32));
        Check.same("clearText()", x.clearText(), 60);
        Check.same("savedStates()", x.savedStates(), 0);
    }

    static void promise29_clearText() {
        NestedEnvelopes x = new NestedEnvelopes();
        Check.same("clearText() of nothing", x.clearText(), 0);
        Check.write(x, "xyz");
        Check.same("clearText()", x.clearText(), 3);
        Check.same("clearText() again", x.clearText(), 0);
        Check.same("firstError()", x.firstError(), 0);
        Check.same("append('c')", x.append('c'), 1);
        Check.same("firstError() of c", x.firstError(), 1);
        Check.same("savedStates()", x.savedStates(), 0);
    }

    static void promise30_firstErrorOfWholeTexts() {
        for (String text : new String[] {"", "r0123", "r7653", "r123", "s5=9999", "s0=0", "a3=10", "a0=0",
            "c0", "c7", "o0", "o7", "t1", "t9", "c1;", "r0123;s0=77;t4;a3=88;t4;c1;s0=5;t9", "s0=", "r", "s"}) {
            errorAt(text, text.length());
        }
    }

    static void promise30_firstErrorInOrders() {
        errorAt("x", 0);
        errorAt(";", 0);
        errorAt("R", 0);
        errorAt("0", 0);
        errorAt("r8", 1);
        errorAt("r/", 1);
        errorAt("r00", 2);
        errorAt("r010", 3);
        errorAt("r011", 3);
        errorAt("r018", 3);
        errorAt("r0124", 4);
        errorAt("r012;", 4);
        errorAt("r01233", 5);
        errorAt("r0;", 2);
        errorAt("s6", 1);
        errorAt("a4", 1);
        errorAt("s0:", 2);
        errorAt("s00", 2);
        errorAt("s0=;", 3);
        errorAt("a0==", 3);
        errorAt("s0=05", 4);
        errorAt("a0=00", 4);
        errorAt("s0=10000", 7);
        errorAt("a0=99990", 7);
        errorAt("s0=1x", 4);
        errorAt("s0=:", 3);
        errorAt("s0=/", 3);
        errorAt("s0=9:", 4);
        errorAt("a0=9/", 4);
        errorAt("r012/", 4);
        errorAt("c8", 1);
        errorAt("o8", 1);
        errorAt("c;", 1);
        errorAt("c11", 2);
        errorAt("t0", 1);
        errorAt("t:", 1);
        errorAt("t11", 2);
    }

    static void promise30_firstErrorInLaterOrders() {
        errorAt("c1;;", 3);
        errorAt("c1;t0;x", 4);
        errorAt("s0=0;s0=00", 9);
        errorAt("r0123;r0122", 11);
        errorAt("r0123;r0112", 9);
        errorAt("t1;t2;t3,", 8);
        errorAt("t1t2", 2);
        String full = "t1;t1;t1;t1;t1;t1;t1;t1;t1;t1;t1;t1;t1;t1;t1;t1;t1;t1;t1;t1;";
        errorAt(full, 60);
        errorAt(full.substring(0, 59) + "r", 59);
    }

    static void promise31_run() {
        NestedEnvelopes x = new NestedEnvelopes();
        runs(x, "r0123;s0=77;t4;a3=88;t4;c1;s0=5;t9", 8);
        Check.same("letter(3)", x.letter(3), 77);
        Check.same("lastAnswer()", x.lastAnswer(), 88);
        Check.same("count(4)", x.count(4), 1);
        Check.same("isOpen(1)", x.isOpen(1), false);
        Check.same("savedStates()", x.savedStates(), 1);
        runs(x, "o1;s0=9999;a3=1234", 3);
        Check.same("isOpen(1) after o1", x.isOpen(1), true);
        Check.same("body of the answer", x.envelope(1, 2), 1234);
        Check.same("body of the letter", x.envelope(0, 2), bodyOnRoadOf012(9999));
        x.undo();
        Check.same("isOpen(1) after undo", x.isOpen(1), false);
        x.undo();
        Check.same("roads() after undo", x.roads(), 0);
    }

    private static int bodyOnRoadOf012(int letter) {
        NestedEnvelopes y = new NestedEnvelopes();
        return y.cover(0, y.cover(1, y.cover(2, letter)));
    }

    static void promise31_runOfEachOrder() {
        NestedEnvelopes x = new NestedEnvelopes();
        runs(x, "r7053", 1);
        Check.same("inn(0, 1)", x.inn(0, 1), 7);
        Check.same("inn(0, 2)", x.inn(0, 2), 0);
        Check.same("inn(0, 3)", x.inn(0, 3), 5);
        Check.same("hall(0)", x.hall(0), 3);
        runs(x, "c7", 1);
        Check.same("isOpen(7)", x.isOpen(7), false);
        runs(x, "o7", 1);
        Check.same("isOpen(7) again", x.isOpen(7), true);
        runs(x, "s0=0", 1);
        runs(x, "t9", 1);
        Check.same("letter(3)", x.letter(3), 0);
        runs(x, "a3=0", 1);
        Check.same("envelope(0, 3)", x.envelope(0, 3), 1);
    }

    static void promise31_runStops() {
        NestedEnvelopes x = new NestedEnvelopes();
        runs(x, "c1;r1230;o1", 1);
        Check.same("isOpen(1)", x.isOpen(1), false);
        runs(x, "s1=5", 0);
        runs(x, "a0=5;c2", 0);
        Check.same("isOpen(2)", x.isOpen(2), true);
        Check.same("savedStates()", x.savedStates(), 3);
        runs(x, "r0230;r0230;r0230;r0230;r0230;r0230;r0230;c5", 6);
        Check.same("roads()", x.roads(), 6);
        Check.same("isOpen(5)", x.isOpen(5), true);
        runs(x, "s0=1;s0=1;s0=1;s0=1;s0=1;s0=1;s0=1;s0=1;s0=1;s0=1;s0=1", 11);
        runs(x, "s5=1;s0=1;c6", 1);
        Check.same("envelopes()", x.envelopes(), 12);
        runs(x, "t9;a0=5", 2);
        for (int envelope = 1; envelope < 12; envelope++) {
            x.send(0, 0);
        }
        runs(x, "a0=5;c6", 0);
        Check.same("isOpen(6)", x.isOpen(6), true);
        Check.same("savedStates() at last", x.savedStates(), 6);
    }

    static void promise31_runWrong() {
        for (String text : new String[] {"", "x", "r", "r01", "r012", "s0", "s0=", "a3=", "c", "o", "t", "t1;",
            "c1;r012", "c1;x", "s0=05", "c1;;", "t0", "s0=10000"}) {
            incomplete(text);
        }
    }

    static void promise31_runIsUndoneAsOneCall() {
        NestedEnvelopes x = Check.withRoad();
        long before = x.digest();
        runs(x, "c1;c2;c4;o1;s0=5;t3", 6);
        Check.same("savedStates()", x.savedStates(), 2);
        Check.write(x, "c5");
        Check.same("undo()", x.undo(), 1);
        Check.same("digest() after undo", x.digest(), before);
        Check.same("clearText(), which undo() leaves alone", x.clearText(), 2);
    }
}
