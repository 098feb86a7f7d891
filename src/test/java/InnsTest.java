/** Promises 1 to 7: a new object, and the inns. */
final class InnsTest {

    private InnsTest() {
    }

    static void promise01_newObject() {
        NestedEnvelopes x = new NestedEnvelopes();
        for (int inn = 0; inn < 8; inn++) {
            Check.same("isOpen(" + inn + ")", x.isOpen(inn), true);
            Check.same("key(" + inn + ")", x.key(inn), 1111 * (inn + 1));
            Check.same("known(" + inn + ")", x.known(inn), 0);
            Check.same("lostIfClosed(" + inn + ")", x.lostIfClosed(inn), 0);
        }
        for (int hall = 0; hall < 4; hall++) {
            Check.same("letter(" + hall + ")", x.letter(hall), -1);
        }
        for (int what = 0; what < 5; what++) {
            Check.same("count(" + what + ")", x.count(what), 0);
        }
        Check.same("roads()", x.roads(), 0);
        Check.same("envelopes()", x.envelopes(), 0);
        Check.same("lastAnswer()", x.lastAnswer(), -1);
        Check.same("savedStates()", x.savedStates(), 0);
        Check.same("clearText()", x.clearText(), 0);
    }

    static void promise01_objectsAreApart() {
        NestedEnvelopes x = new NestedEnvelopes();
        NestedEnvelopes y = new NestedEnvelopes();
        x.setOpen(2, false);
        x.setKey(3, 9);
        x.lay(0, 1, 3, 0);
        x.append('r');
        Check.same("isOpen(2) of another object", y.isOpen(2), true);
        Check.same("key(3) of another object", y.key(3), 4444);
        Check.same("roads() of another object", y.roads(), 0);
        Check.same("clearText() of another object", y.clearText(), 0);
    }

    static void promise02_setOpen() {
        NestedEnvelopes x = new NestedEnvelopes();
        Check.same("setOpen(7, false)", x.setOpen(7, false), true);
        Check.same("isOpen(7)", x.isOpen(7), false);
        Check.same("isOpen(6)", x.isOpen(6), true);
        Check.same("setOpen(7, false) again", x.setOpen(7, false), false);
        Check.same("setOpen(7, true)", x.setOpen(7, true), false);
        Check.same("setOpen(7, true) again", x.setOpen(7, true), true);
        Check.same("isOpen(7) after it", x.isOpen(7), true);
        Check.same("savedStates()", x.savedStates(), 4);
        x.undo();
        x.undo();
        Check.same("isOpen(7) after two undos", x.isOpen(7), false);
    }

    static void promise02_setOpenWrong() {
        NestedEnvelopes x = new NestedEnvelopes();
        for (int inn : new int[] {-1, 8, Integer.MIN_VALUE, Integer.MAX_VALUE}) {
            Check.index(x, "setOpen(" + inn + ", false)", () -> x.setOpen(inn, false));
        }
    }

    static void promise03_setKey() {
        NestedEnvelopes x = new NestedEnvelopes();
        Check.same("setKey(0, 0)", x.setKey(0, 0), 1111);
        Check.same("setKey(0, 9999)", x.setKey(0, 9999), 0);
        Check.same("setKey(7, 5)", x.setKey(7, 5), 8888);
        Check.same("key(0)", x.key(0), 9999);
        Check.same("key(1)", x.key(1), 2222);
        Check.same("key(7)", x.key(7), 5);
        Check.same("savedStates()", x.savedStates(), 3);
        x.undo();
        Check.same("key(7) after undo", x.key(7), 8888);
    }

    static void promise03_setKeyWrong() {
        NestedEnvelopes x = new NestedEnvelopes();
        Check.index(x, "setKey(8, 0)", () -> x.setKey(8, 0));
        Check.index(x, "setKey(-1, 0)", () -> x.setKey(-1, 0));
        Check.index(x, "setKey(8, 10000)", () -> x.setKey(8, 10000));
        Check.argument(x, "setKey(0, 10000)", () -> x.setKey(0, 10000));
        Check.argument(x, "setKey(7, -1)", () -> x.setKey(7, -1));
        Check.argument(x, "setKey(7, min)", () -> x.setKey(7, Integer.MIN_VALUE));
    }

    static void promise04_isOpen() {
        NestedEnvelopes x = new NestedEnvelopes();
        x.setOpen(0, false);
        Check.same("isOpen(0)", x.isOpen(0), false);
        Check.same("isOpen(1)", x.isOpen(1), true);
        Check.same("isOpen(7)", x.isOpen(7), true);
        Check.same("savedStates()", x.savedStates(), 1);
        Check.index(x, "isOpen(8)", () -> x.isOpen(8));
        Check.index(x, "isOpen(-1)", () -> x.isOpen(-1));
    }

    static void promise05_key() {
        NestedEnvelopes x = new NestedEnvelopes();
        Check.same("key(0)", x.key(0), 1111);
        Check.same("key(7)", x.key(7), 8888);
        x.setKey(4, 44);
        Check.same("key(4)", x.key(4), 44);
        Check.index(x, "key(8)", () -> x.key(8));
        Check.index(x, "key(-1)", () -> x.key(-1));
    }

    static void promise06_cover() {
        NestedEnvelopes x = new NestedEnvelopes();
        Check.same("cover(0, 42)", x.cover(0, 42), 1405);
        Check.same("cover(0, 0)", x.cover(0, 0), 1111);
        Check.same("cover(7, 9999)", x.cover(7, 9999), (7 * 9999 + 8888) % 10000);
        x.setKey(7, 9999);
        Check.same("cover(7, 9999) with the key 9999", x.cover(7, 9999), 9992);
        Check.index(x, "cover(8, 0)", () -> x.cover(8, 0));
        Check.index(x, "cover(-1, 10000)", () -> x.cover(-1, 10000));
        Check.argument(x, "cover(0, 10000)", () -> x.cover(0, 10000));
        Check.argument(x, "cover(0, -1)", () -> x.cover(0, -1));
        Check.same("savedStates()", x.savedStates(), 1);
    }

    static void promise07_uncover() {
        NestedEnvelopes x = new NestedEnvelopes();
        Check.same("uncover(0, 0)", x.uncover(0, 0), 4127);
        Check.same("uncover(0, 1405)", x.uncover(0, 1405), 42);
        x.setKey(5, 9999);
        for (int body = 0; body < 10000; body++) {
            Check.same("uncover(5, cover(5, " + body + "))", x.uncover(5, x.cover(5, body)), body);
        }
        Check.index(x, "uncover(8, 0)", () -> x.uncover(8, 0));
        Check.index(x, "uncover(-1, -1)", () -> x.uncover(-1, -1));
        Check.argument(x, "uncover(0, 10000)", () -> x.uncover(0, 10000));
        Check.argument(x, "uncover(0, -1)", () -> x.uncover(0, -1));
        Check.same("savedStates()", x.savedStates(), 1);
    }
}
