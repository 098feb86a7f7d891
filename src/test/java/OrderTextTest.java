/** Promises 28 to 31: the buffer and what is done with its orders. */
final class OrderTextTest {

    private static final String NOT_COMPLETE =
            "Throws `IllegalArgumentException` if the buffer is not a complete order text";

    private OrderTextTest() {
    }

    private static void errorAt(String text, int due) {
        NestedEnvelopes x = Given.text(text);
        Check.same("firstError() of " + text, x.firstError(), due);
        Check.same("firstError() of " + text + " again", x.firstError(), due);
        Check.same("clearText() of " + text, x.clearText(), text.length());
    }

    private static void runs(NestedEnvelopes x, String text, int due) {
        Given.write(x, text);
        Check.same("run() of " + text, x.run(), due);
        Check.same("clearText() after " + text, x.clearText(), 0);
    }

    private static NestedEnvelopes written(NestedEnvelopes x, String text) {
        Given.write(x, text);
        return x;
    }

    // ---- append, clearText

    @Says({"Appends a character to the buffer.", "Returns the new length of the buffer."})
    static void promise28_append() {
        NestedEnvelopes x = new NestedEnvelopes();
        for (int length = 1; length <= 60; length++) {
            Check.same("append('c')", x.append('c'), length);
        }
        Check.same("savedStates()", x.savedStates(), 0);
        Check.same("clearText()", x.clearText(), 60);
        Check.same("append('c') after clearText()", x.append('c'), 1);
    }

    @Says("Appends a character to the buffer.")
    static void promise28_appendKeepsTheCharacter() {
        NestedEnvelopes x = Given.text("r0123;s0=77;t4;a3=98;t3;c1;o7;c6;o6");
        Check.same("run()", x.run(), 9);
        Check.same("letter(3)", x.letter(3), 77);
        Check.same("the place of the answer", x.envelope(0, 1), 1);
        Check.same("isOpen(1)", x.isOpen(1), false);
        Check.same("isOpen(6)", x.isOpen(6), true);
    }

    @Says({"`code`: a character code, 33 to 126", "Throws `IllegalArgumentException` if code is out of range"})
    static void promise28_appendOutOfRange() {
        Check.argumentRange(Given::fresh, "append()", 33, 126, (x, code) -> x.append(code));
        Check.argumentRange(Given::busy, "append() to a text", 33, 126, (x, code) -> x.append(code));
        Check.argument(OrderTextTest::full, "append(32) to 60", x -> x.append(32));
        Check.argument(OrderTextTest::full, "append(127) to 60", x -> x.append(127));
    }

    private static NestedEnvelopes full() {
        return Given.text(Given.sixtyCharacters());
    }

    @Says("Throws `IllegalStateException` if the buffer contains 60 characters")
    static void promise28_appendToSixty() {
        Check.same("append() to 59", Given.text(Given.sixtyCharacters().substring(1)).append('t'), 60);
        Check.state(OrderTextTest::full, "append('t') to 60", x -> x.append('t'));
        Check.state(OrderTextTest::full, "append(33) to 60", x -> x.append(33));
        Check.state(OrderTextTest::full, "append(126) to 60", x -> x.append(126));
    }

    @Says({"Empties the buffer.", "Returns the length that it had."})
    static void promise29_clearText() {
        for (int length = 0; length <= 60; length++) {
            NestedEnvelopes x = Given.text(Given.sixtyCharacters().substring(0, length));
            Check.same("clearText()", x.clearText(), length);
            Check.same("clearText() again", x.clearText(), 0);
            Check.same("firstError()", x.firstError(), 0);
            Check.same("savedStates()", x.savedStates(), 0);
            Check.same("append('c')", x.append('c'), 1);
            Check.same("firstError() of c", x.firstError(), 1);
        }
    }

    // ---- firstError

    @Says({"Finds the first error of the buffer.", "Returns the index of the first character that is an error;"})
    static void promise30_firstError() {
        errorAt("x", 0);
        errorAt(";", 0);
        errorAt("R", 0);
        errorAt("0", 0);
        errorAt("r8", 1);
        errorAt("r00", 2);
        errorAt("r010", 3);
        errorAt("r011", 3);
        errorAt("r0124", 4);
        errorAt("r01233", 5);
        errorAt("s6", 1);
        errorAt("a4", 1);
        errorAt("s00", 2);
        errorAt("s0=05", 4);
        errorAt("a0=00", 4);
        errorAt("s0=10000", 7);
        errorAt("a0=99990", 7);
        errorAt("c8", 1);
        errorAt("c11", 2);
        errorAt("t0", 1);
        errorAt("t11", 2);
    }

    @Says("Returns the index of the first character that is an error;")
    static void promise30_firstErrorOfMore() {
        errorAt("xyz", 0);
        errorAt("t0;t1;t0", 1);
        errorAt("c1;;", 3);
        errorAt("c1;t0;x", 4);
        errorAt("s0=0;s0=00", 9);
        errorAt("s0=00;s0=0", 4);
        errorAt("r0123;r0122", 11);
        errorAt("r0123;r0112", 9);
        errorAt("t1;t2;t3,", 8);
        errorAt("t1t2", 2);
        errorAt("c0,o0", 2);
    }

    @Says("Returns the index of the first character that is an error;")
    static void promise30_firstErrorAtTheEnds() {
        String most = Given.sixtyCharacters();
        errorAt("x" + most.substring(1), 0);
        errorAt(most.substring(0, 59) + "r", 59);
        errorAt(most.substring(0, 58) + "0;", 58);
    }

    @Says("the length of the buffer if there is none")
    static void promise30_noErrorInCompleteTexts() {
        for (String text : new String[] {"r0123", "r7653", "s5=9999", "s0=0", "a3=10", "a0=0", "c0", "c7", "o0", "o7",
            "t1", "t9", "r0123;s0=77;t4;a3=88;t4;c1;s0=5;t9", Given.sixtyCharacters().substring(0, 59)}) {
            errorAt(text, text.length());
        }
    }

    @Says("(also if the buffer is not a complete order text).")
    static void promise30_noErrorInBeginnings() {
        String whole = "r0123;s5=9999;a3=1000;c7;o0;t9;";
        for (int length = 0; length <= whole.length(); length++) {
            errorAt(whole.substring(0, length), length);
        }
        errorAt(Given.sixtyCharacters(), 60);
    }

    @Says("Finds the first error of the buffer.")
    static void promise30_firstErrorChangesNothing() {
        Check.changesNothing(Given::busy, "firstError()", x -> x.firstError());
        Check.changesNothing(() -> Given.text("c1;x"), "firstError() of c1;x", x -> x.firstError());
    }

    // ---- run

    @Says("Executes the orders in the buffer, one after the other,")
    static void promise31_run() {
        NestedEnvelopes x = new NestedEnvelopes();
        runs(x, "r0123;s0=77;t4;a3=88;t4;c1;s0=5;t9", 8);
        Check.same("letter(3)", x.letter(3), 77);
        Check.same("lastAnswer()", x.lastAnswer(), 88);
        Check.counts(x, 2, 1, 1, 1, 1);
        Check.same("isOpen(1)", x.isOpen(1), false);
        runs(x, "o1;s0=9999;a3=1234", 3);
        Check.same("isOpen(1) after o1", x.isOpen(1), true);
        Check.same("the body of the answer", x.envelope(1, 2), 1234);
        Check.same("the body of the letter", x.envelope(0, 2), x.cover(0, x.cover(1, x.cover(2, 9999))));
        runs(x, "c0;o0;c1;o1;c0", 5);
        Check.same("isOpen(0)", x.isOpen(0), false);
        Check.same("isOpen(1)", x.isOpen(1), true);
    }

    @Says("up to the first one whose method would throw an exception,")
    static void promise31_runStopsAtLay() {
        NestedEnvelopes x = new NestedEnvelopes();
        runs(x, "c1;r1230;o1", 1);
        runs(x, "r2130;o1", 0);
        runs(x, "r2310;o1", 0);
        Check.same("isOpen(1)", x.isOpen(1), false);
        Check.same("roads()", x.roads(), 0);
        runs(x, "o1;r1230;c1;r2130;o1", 3);
        Check.same("roads() when it is open", x.roads(), 1);
        Check.same("isOpen(1) when it was open", x.isOpen(1), false);
        runs(x, "r0230;r0230;r0230;r0230;r0230;r0230;c5", 5);
        Check.same("roads() at most", x.roads(), 6);
        Check.same("isOpen(5)", x.isOpen(5), true);
    }

    @Says("up to the first one whose method would throw an exception,")
    static void promise31_runStopsAtSend() {
        NestedEnvelopes x = Given.road();
        runs(x, "s1=5;c6", 0);
        runs(x, "s0=5;s1=5;c6", 1);
        runs(x, "r1240;s1=5;s2=5;c6", 2);
        Check.same("envelopes()", x.envelopes(), 2);
        runs(x, "s0=1;s0=1;s0=1;s0=1;s0=1;s0=1;s0=1;s0=1;s0=1;s0=1;s0=1;c6", 10);
        Check.same("envelopes() at most", x.envelopes(), 12);
        runs(x, "s0=1;c6", 0);
        Check.same("isOpen(6)", x.isOpen(6), true);
        Check.counts(x, 12, 0, 0, 0, 0);
    }

    @Says("up to the first one whose method would throw an exception,")
    static void promise31_runStopsAtAnswer() {
        NestedEnvelopes x = Given.letters(1);
        runs(x, "t3;a2=5;c6", 1);
        runs(x, "t1;a1=5;c6", 1);
        runs(x, "a2=1;a2=1;a2=1;a2=1;a2=1;a2=1;a2=1;a2=1;a2=1;a2=1;a2=1", 11);
        runs(x, "a2=1;a2=1;c6", 1);
        Check.same("envelopes() at most", x.envelopes(), 12);
        runs(x, "t9;a2=5", 2);
        x.pass(4);
        x.takeUp();
        runs(x, "a2=5;c6", 0);
        runs(x, "r3502;a2=5;c6", 1);
        Check.same("isOpen(6)", x.isOpen(6), true);
        Check.same("envelopes()", x.envelopes(), 0);
    }

    @Says("and empties the buffer.")
    static void promise31_runEmptiesTheBuffer() {
        NestedEnvelopes x = Given.text("t1");
        x.run();
        Check.argument(() -> ran("t1"), "run() again", y -> y.run());
        Check.argument(() -> ran("s0=1;t1"), "run() again after no order", y -> y.run());
        Check.argument(() -> ran("c1;s0=1;t1"), "run() again after one order", y -> y.run());
        Check.same("append('t')", x.append('t'), 1);
        Check.same("clearText() after all orders", ran("t1").clearText(), 0);
        Check.same("clearText() after no order", ran("s0=1;t1").clearText(), 0);
        Check.same("clearText() after one order", ran("c1;s0=1;t1").clearText(), 0);
    }

    private static NestedEnvelopes ran(String text) {
        NestedEnvelopes x = Given.text(text);
        x.run();
        return x;
    }

    @Says("Undoable, as one call,")
    static void promise31_runIsUndoneAsOneCall() {
        Check.undoes(() -> written(Given.road(), "c1;c2;c4;o1;s0=5;t3;r3502"), "run()", x -> x.run());
        Check.undoes(() -> written(Given.delivered(), "a2=5;t9;c5;s0=1;t9;s3=1"), "run() that stops", x -> x.run());
        NestedEnvelopes x = Given.road();
        runs(x, "c1;c2;c4;o1;s0=5;t3;c6;c7", 8);
        Check.same("savedStates()", x.savedStates(), 2);
        Given.write(x, "c5");
        Check.same("undo()", x.undo(), 1);
        Check.same("clearText(), which undo() leaves alone", x.clearText(), 2);
        Check.same("undo() of the road", x.undo(), 0);
    }

    @Says("also if no order is executed.")
    static void promise31_runOfNoOrderIsUndone() {
        Check.undoes(() -> written(Given.road(), "s1=5"), "run() of no order", x -> x.run());
        NestedEnvelopes x = Given.sixRoads();
        runs(x, "r0123", 0);
        Check.same("savedStates()", x.savedStates(), 6);
        for (int left = 5; left >= 0; left--) {
            Check.same("undo()", x.undo(), left);
        }
        Check.same("roads() of the second oldest state", x.roads(), 1);
    }

    @Says("Returns the number of orders that are executed.")
    static void promise31_runReturnsTheNumber() {
        String full = Given.sixtyCharacters();
        for (int orders = 1; orders <= 20; orders++) {
            Check.same("run() of " + orders, Given.text(full.substring(0, 3 * orders - 1)).run(), orders);
        }
        for (int orders = 0; orders <= 18; orders++) {
            Check.same("run() of " + orders + " and one that would throw",
                    Given.text(full.substring(0, 3 * orders) + "s0=1").run(), orders);
        }
    }

    @Says({NOT_COMPLETE, "(the buffer stays)"})
    static void promise31_runOfNoCompleteText() {
        for (String text : new String[] {"", "x", "r", "r01", "r012", "s0", "s0=", "a3=", "c", "o", "t", "t1;",
            "c1;r012", "c1;x", "s0=05", "c1;;", ";c1", "t0", "s0=10000", "c1;c", Given.sixtyCharacters()}) {
            Check.argument(() -> written(Given.road(), text), "run() of " + text, x -> x.run());
            NestedEnvelopes x = written(Given.road(), text);
            try {
                x.run();
            } catch (IllegalArgumentException e) {
                Check.same("clearText() after run() of " + text, x.clearText(), text.length());
            }
        }
    }

    @Says(NOT_COMPLETE)
    static void promise31_runOfEachBeginning() {
        String text = "r0123;s5=9999;a3=1000;c7;o0;t9;";
        String ends = "....x....xxxx....xxxx..x..x..x.";
        for (int length = 1; length <= text.length(); length++) {
            String beginning = text.substring(0, length);
            if (ends.charAt(length - 1) == '.') {
                Check.argument(() -> Given.text(beginning), "run() of " + beginning, x -> x.run());
            } else {
                Check.same("run() of " + beginning + " executes", Given.text(beginning).run() >= 0, true);
            }
        }
    }

    @Says("(the buffer stays)")
    static void promise31_theBufferThatStaysCanGoOn() {
        NestedEnvelopes x = Given.text("c1;");
        try {
            x.run();
        } catch (IllegalArgumentException e) {
            Check.same("append('c')", x.append('c'), 4);
        }
        x.append('2');
        Check.same("run()", x.run(), 2);
        Check.same("isOpen(1)", x.isOpen(1), false);
        Check.same("isOpen(2)", x.isOpen(2), false);
    }
}
