/** The document's Terms on undo. */
final class UndoTermsTest {

    private UndoTermsTest() {
    }

    @Says("The state consists of everything except the buffer and the saved states.")
    static void terms_undoRestoresEverything() {
        Check.undoes(Given::delivered, "setOpen(3, false)", x -> x.setOpen(3, false));
        Check.undoes(Given::delivered, "setKey(3, 0)", x -> x.setKey(3, 0));
        Check.undoes(Given::delivered, "lay(7, 6, 4, 0)", x -> x.lay(7, 6, 4, 0));
        Check.undoes(Given::delivered, "takeUp()", x -> x.takeUp());
        Check.undoes(Given::delivered, "send(0, 9)", x -> x.send(0, 9));
        Check.undoes(Given::delivered, "answer(2, 9)", x -> x.answer(2, 9));
        Check.undoes(() -> Given.letters(3), "pass(4)", x -> x.pass(4));
        Check.undoes(() -> Given.answers(2), "pass(4)", x -> x.pass(4));
        Check.undoes(() -> withText("c3;s0=5;t4;a2=8;c5;t9"), "run()", x -> x.run());
    }

    private static NestedEnvelopes withText(String text) {
        NestedEnvelopes x = Given.delivered();
        Given.write(x, text);
        return x;
    }

    @Says("The state consists of everything except the buffer and the saved states.")
    static void terms_undoRestoresWhatNoCallShows() {
        NestedEnvelopes x = Given.delivered();
        x.setKey(3, 1);
        x.takeUp();
        x.lay(3, 5, 0, 2);
        x.undo();
        x.undo();
        Check.same("answer(2, 5) on the road of before", x.answer(2, 5), 0);
        x.send(0, 42);
        Check.same("the body with the keys of before", x.envelope(1, 2), 9951);
        NestedEnvelopes y = Given.delivered();
        y.lay(1, 2, 4, 2);
        y.send(1, 7);
        y.pass(4);
        y.undo();
        y.undo();
        y.answer(2, 5);
        Check.same("the road of the last letter of before", y.envelope(0, 0), 0);
    }

    @Says("The state consists of everything except the buffer and the saved states.")
    static void terms_undoRestoresRoads() {
        NestedEnvelopes x = Given.fresh();
        x.lay(3, 5, 0, 2);
        x.takeUp();
        x.lay(7, 6, 1, 3);
        Check.same("hall(0) of the other road", x.hall(0), 3);
        x.undo();
        x.undo();
        Check.same("inn(0, 1)", x.inn(0, 1), 3);
        Check.same("inn(0, 2)", x.inn(0, 2), 5);
        Check.same("inn(0, 3)", x.inn(0, 3), 0);
        Check.same("hall(0)", x.hall(0), 2);
    }

    @Says("The state consists of everything except the buffer and the saved states.")
    static void terms_undoLeavesTheBuffer() {
        NestedEnvelopes x = Given.road();
        Given.write(x, "c1;x");
        x.undo();
        Check.same("firstError() after undo()", x.firstError(), 3);
        Check.same("clearText() after undo()", x.clearText(), 4);
        Given.write(x, "c1");
        x.run();
        x.undo();
        Check.same("clearText() after run() and undo()", x.clearText(), 0);
        x.setKey(0, 5);
        Given.write(x, "c1;o1");
        x.clearText();
        x.undo();
        Check.same("clearText() after clearText() and undo()", x.clearText(), 0);
    }

    @Says("Each method that is marked \"Undoable\" saves the state from before the call if it does not throw an"
        + " exception,")
    static void terms_undoableMethodsSave() {
        NestedEnvelopes x = Given.fresh();
        x.lay(0, 1, 2, 3);
        Check.same("savedStates() after lay()", x.savedStates(), 1);
        x.send(0, 5);
        Check.same("savedStates() after send()", x.savedStates(), 2);
        x.pass(4);
        Check.same("savedStates() after pass()", x.savedStates(), 3);
        x.answer(3, 5);
        Check.same("savedStates() after answer()", x.savedStates(), 4);
        x.setOpen(2, false);
        Check.same("savedStates() after setOpen()", x.savedStates(), 5);
        x.setKey(2, 0);
        Check.same("savedStates() after setKey()", x.savedStates(), 6);
        NestedEnvelopes y = Given.road();
        y.takeUp();
        Check.same("savedStates() after takeUp()", y.savedStates(), 2);
        Given.write(y, "c1;c2;c3");
        y.run();
        Check.same("savedStates() after run()", y.savedStates(), 3);
    }

    @Says("saves the state from before the call if it does not throw an exception,")
    static void terms_callsThatThrowDoNotSave() {
        Check.same("savedStates() of six roads", Given.sixRoads().savedStates(), 6);
        Check.state(Given::sixRoads, "lay() with six saved states", x -> x.lay(0, 1, 2, 0));
        Check.argument(Given::sixRoads, "send() with six saved states", x -> x.send(0, 10000));
        Check.index(Given::sixRoads, "setOpen() with six saved states", x -> x.setOpen(8, true));
        Check.index(Given::sixRoads, "setKey() with six saved states", x -> x.setKey(8, 1));
        Check.state(Given::sixRoads, "answer() with six saved states", x -> x.answer(0, 1));
        Check.argument(Given::sixRoads, "pass() with six saved states", x -> x.pass(0));
        Check.argument(Given::sixRoads, "run() with six saved states", x -> x.run());
        Check.state(Given::twelve, "takeUp() with six saved states", x -> x.takeUp());
    }

    @Says("even if nothing changes.")
    static void terms_callsThatChangeNothingSave() {
        Check.undoes(Given::fresh, "setOpen(0, true)", x -> x.setOpen(0, true));
        Check.undoes(Given::fresh, "setKey(0, 1111)", x -> x.setKey(0, 1111));
        Check.undoes(Given::fresh, "pass(1)", x -> x.pass(1));
        Check.undoes(() -> Given.text("s0=5"), "run()", x -> x.run());
        Check.undoes(() -> Given.text("o0"), "run()", x -> x.run());
        NestedEnvelopes x = Given.fresh();
        x.setKey(0, 5);
        for (int call = 0; call < 6; call++) {
            x.setKey(0, 5);
        }
        for (int left = 5; left >= 0; left--) {
            x.undo();
            Check.same("key(0), whose older state is discarded", x.key(0), 5);
        }
    }

    private static NestedEnvelopes withKeys(int calls) {
        NestedEnvelopes x = Given.fresh();
        for (int call = 1; call <= calls; call++) {
            x.setKey(0, call);
        }
        return x;
    }

    @Says("At most 6 states are saved;")
    static void terms_sixStates() {
        for (int calls = 0; calls <= 20; calls++) {
            Check.same("savedStates() after " + calls, withKeys(calls).savedStates(), Math.min(6, calls));
        }
    }

    @Says("when one more is saved, the oldest one is discarded.")
    static void terms_oldestIsDiscarded() {
        for (int calls : new int[] {5, 6, 7, 8, 11, 12, 13, 18, 19, 100, 490}) {
            NestedEnvelopes x = withKeys(calls);
            int left = Math.min(6, calls);
            for (int key = calls - 1; left > 0; key--) {
                left--;
                Check.same("undo() after " + calls, x.undo(), left);
                Check.same("key(0) after " + calls, x.key(0), key == 0 ? 1111 : key);
            }
            boolean threw = false;
            try {
                x.undo();
            } catch (IllegalStateException e) {
                threw = true;
            }
            Check.same("one undo() more after " + calls + " throws", threw, true);
        }
    }

    @Says("when one more is saved, the oldest one is discarded.")
    static void terms_oldestIsDiscardedBetweenUndos() {
        for (int undos = 1; undos <= 6; undos++) {
            NestedEnvelopes x = withKeys(9);
            for (int undo = 0; undo < undos; undo++) {
                x.undo();
            }
            for (int call = 0; call <= undos; call++) {
                x.setKey(0, 100 + call);
            }
            Check.same("savedStates()", x.savedStates(), 6);
            for (int call = undos - 1; call >= 0; call--) {
                x.undo();
                Check.same("key(0)", x.key(0), 100 + call);
            }
            for (int left = 5 - undos; left >= 0; left--) {
                Check.same("undo()", x.undo(), left);
                Check.same("key(0) of an older state", x.key(0), 4 + left);
            }
        }
    }
}
