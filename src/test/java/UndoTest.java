/** Promises 32 to 34: undo and the hash. */
final class UndoTest {

    private UndoTest() {
    }

    static void promise32_undo() {
        NestedEnvelopes x = new NestedEnvelopes();
        Check.state(x, "undo() of nothing", () -> x.undo());
        String[] looks = new String[9];
        for (int step = 0; step < 9; step++) {
            looks[step] = Check.look(x).substring(2);
            x.setKey(0, step);
        }
        for (int left = 5; left >= 0; left--) {
            Check.same("undo()", x.undo(), left);
            Check.sameText("all after undo()", Check.look(x).substring(2), looks[left + 3]);
        }
        Check.state(x, "undo() of a discarded state", () -> x.undo());
        Check.same("key(0)", x.key(0), 2);
    }

    static void promise32_undoAndGoOn() {
        NestedEnvelopes x = new NestedEnvelopes();
        for (int key = 1; key <= 20; key++) {
            x.setKey(0, key);
            x.setKey(1, key);
            x.undo();
        }
        Check.same("key(0)", x.key(0), 20);
        Check.same("key(1)", x.key(1), 2222);
        Check.same("undo()", x.undo(), 4);
        Check.same("key(0) after undo", x.key(0), 19);
        x.undo();
        x.undo();
        x.undo();
        Check.same("last undo()", x.undo(), 0);
        Check.same("key(0) at the oldest", x.key(0), 15);
    }

    static void promise32_undoRestoresAll() {
        NestedEnvelopes x = Check.withRoad();
        x.send(0, 42);
        x.pass(4);
        x.answer(2, 7);
        x.send(0, 8);
        long before = x.digest();
        Check.write(x, "c3;c1;t9");
        x.run();
        Check.same("envelopes()", x.envelopes(), 0);
        x.undo();
        Check.same("digest() after undo", x.digest(), before);
        Check.same("envelope(0, 3)", x.envelope(0, 3), 1);
        Check.same("pass(9)", x.pass(9), 2);
        Check.same("letter(2)", x.letter(2), 8);
        Check.same("lastAnswer()", x.lastAnswer(), 7);
    }

    static void promise32_undoLeavesTheBuffer() {
        NestedEnvelopes x = Check.withRoad();
        Check.write(x, "c1");
        x.undo();
        Check.same("firstError()", x.firstError(), 2);
        Check.same("run()", x.run(), 1);
        x.undo();
        Check.same("clearText()", x.clearText(), 0);
    }

    static void promise33_savedStates() {
        NestedEnvelopes x = new NestedEnvelopes();
        Check.same("savedStates()", x.savedStates(), 0);
        x.setOpen(0, true);
        Check.same("savedStates() when nothing changed", x.savedStates(), 1);
        x.setKey(0, 1111);
        x.lay(0, 1, 2, 0);
        x.send(0, 1);
        x.pass(4);
        x.answer(0, 2);
        Check.same("savedStates() of six", x.savedStates(), 6);
        x.pass(4);
        x.takeUp();
        Check.same("savedStates() of eight", x.savedStates(), 6);
        x.undo();
        Check.same("savedStates() after undo", x.savedStates(), 5);
        x.append('c');
        x.clearText();
        x.digest();
        x.lostIfClosed(0);
        Check.same("savedStates() after other calls", x.savedStates(), 5);
        NestedEnvelopes y = new NestedEnvelopes();
        Check.state(y, "takeUp()", () -> y.takeUp());
        Check.same("savedStates() after a throw", y.savedStates(), 0);
    }

    private static long hashOf(long[] values) {
        long hash = 4726;
        for (long value : values) {
            hash = 31 * hash + value;
        }
        return hash;
    }

    static void promise34_digest() {
        NestedEnvelopes x = new NestedEnvelopes();
        Check.same("digest() of a new object", x.digest(), hashOf(new long[] {0, 0, -1, 0, 0, 0, 0, 0,
            1, 1111, 0, 0, 1, 2222, 0, 0, 1, 3333, 0, 0, 1, 4444, 0, 0, 1, 5555, 0, 0, 1, 6666, 0, 0,
            1, 7777, 0, 0, 1, 8888, 0, 0, -1, -1, -1, -1, 0, 1, 2}));
        x.lay(3, 5, 0, 2);
        x.send(0, 42);
        x.pass(4);
        x.answer(2, 9999);
        x.send(0, 42);
        x.setOpen(0, false);
        x.setOpen(7, false);
        Check.same("digest()", x.digest(), hashOf(new long[] {1, 2, -1, 2, 1, 1, 0, 0,
            0, 1111, 32, 2, 1, 2222, 0, 2, 1, 3333, 0, 2, 1, 4444, 32, 2, 1, 5555, 0, 2, 1, 6666, 9, 2,
            1, 7777, 0, 2, 0, 8888, 0, 2, 3, 5, 0, 2, 0, 0, 4, 9999, 1, -1, 0, 0, 9951, 0, -1,
            -1, -1, 42, -1, 1, 2, 4}));
        Check.same("savedStates()", x.savedStates(), 6);
    }

    static void promise34_digestLeavesOutTheBuffer() {
        NestedEnvelopes x = Check.withRoad();
        long before = x.digest();
        Check.write(x, "c1");
        Check.same("digest() with a buffer", x.digest(), before);
        x.setOpen(1, true);
        Check.same("digest() with one more saved state", x.digest(), before);
    }
}
