/** Promises 1 to 7: a new object, and the inns. */
final class InnsTest {

    private static final String NO_SUCH_INN = "Throws `IndexOutOfBoundsException` if there is no such inn";
    private static final String INN = "`inn`: 0 to 7";

    private InnsTest() {
    }

    @Says("Creates open inns without roads.")
    static void promise01_newObject() {
        NestedEnvelopes x = new NestedEnvelopes();
        for (int inn = 0; inn < 8; inn++) {
            Check.same("isOpen(" + inn + ")", x.isOpen(inn), true);
            Check.same("key(" + inn + ")", x.key(inn), 1111 * (inn + 1));
            Check.same("known(" + inn + ")", x.known(inn), 0);
            Check.same("lostIfClosed(" + inn + ")", x.lostIfClosed(inn), 0);
        }
        for (int hall = 0; hall < 4; hall++) {
            Check.same("letter(" + hall + ")", x.letter(hall), -1);
        }
        for (int place = 1; place <= 3; place++) {
            Check.same("leastWork(" + place + ")", x.leastWork(place), place - 1);
        }
        Check.counts(x, 0, 0, 0, 0, 0);
        Check.sameDouble("deliveredShare()", x.deliveredShare(), 1.0);
        Check.same("roads()", x.roads(), 0);
        Check.same("envelopes()", x.envelopes(), 0);
        Check.same("lastAnswer()", x.lastAnswer(), -1);
        Check.same("savedStates()", x.savedStates(), 0);
        Check.same("firstError()", x.firstError(), 0);
        Check.same("clearText()", x.clearText(), 0);
    }

    @Says("Creates open inns without roads.")
    static void promise01_newObjectRefuses() {
        Check.state(Given::fresh, "takeUp()", x -> x.takeUp());
        Check.state(Given::fresh, "undo()", x -> x.undo());
        Check.argument(Given::fresh, "run()", x -> x.run());
        Check.indexRange(Given::fresh, "send()", 0, -1, (x, road) -> x.send(road, 1));
        for (int hall = 0; hall < 4; hall++) {
            int number = hall;
            Check.state(Given::fresh, "answer(" + hall + ", 1)", x -> x.answer(number, 1));
        }
    }

    @Says("Creates open inns without roads.")
    static void promise01_objectsAreApart() {
        NestedEnvelopes x = new NestedEnvelopes();
        NestedEnvelopes y = new NestedEnvelopes();
        x.setOpen(2, false);
        x.setKey(3, 9);
        x.lay(0, 1, 3, 0);
        x.send(0, 5);
        x.append('r');
        Check.sameText("another object", Check.past(y), Check.past(new NestedEnvelopes()));
        Check.same("clearText() of another object", y.clearText(), 0);
    }

    @Says({"Opens or closes an inn.", "`isOpen`: whether it is open after the call",
        "Returns whether it was open before the call."})
    static void promise02_setOpen() {
        NestedEnvelopes x = new NestedEnvelopes();
        Check.same("setOpen(7, false)", x.setOpen(7, false), true);
        Check.same("isOpen(7)", x.isOpen(7), false);
        Check.same("isOpen(6)", x.isOpen(6), true);
        Check.same("setOpen(7, false) again", x.setOpen(7, false), false);
        Check.same("isOpen(7) after it", x.isOpen(7), false);
        Check.same("setOpen(7, true)", x.setOpen(7, true), false);
        Check.same("isOpen(7) when opened", x.isOpen(7), true);
        Check.same("setOpen(7, true) again", x.setOpen(7, true), true);
        Check.same("isOpen(7) after all", x.isOpen(7), true);
    }

    @Says("Opens or closes an inn. Undoable.")
    static void promise02_setOpenIsUndone() {
        Check.undoes(InnsTest::withoutSix, "setOpen(6, true)", x -> x.setOpen(6, true));
        Check.undoes(InnsTest::withoutSix, "setOpen(6, false)", x -> x.setOpen(6, false));
        Check.undoes(Given::road, "setOpen(3, false)", x -> x.setOpen(3, false));
        Check.undoes(Given::road, "setOpen(3, true)", x -> x.setOpen(3, true));
    }

    private static NestedEnvelopes withoutSix() {
        NestedEnvelopes x = Given.delivered();
        x.setOpen(6, false);
        return x;
    }

    @Says({INN, NO_SUCH_INN})
    static void promise02_setOpenOfNoInn() {
        Check.indexRange(Given::busy, "setOpen(inn, false)", 0, 7, (x, inn) -> x.setOpen(inn, false));
        Check.indexRange(Given::busy, "setOpen(inn, true)", 0, 7, (x, inn) -> x.setOpen(inn, true));
    }

    @Says({"Sets the key of an inn.", "Returns the previous key."})
    static void promise03_setKey() {
        NestedEnvelopes x = new NestedEnvelopes();
        Check.same("setKey(0, 0)", x.setKey(0, 0), 1111);
        Check.same("setKey(0, 9999)", x.setKey(0, 9999), 0);
        Check.same("setKey(0, 9999) again", x.setKey(0, 9999), 9999);
        Check.same("setKey(7, 5)", x.setKey(7, 5), 8888);
        Check.same("key(0)", x.key(0), 9999);
        Check.same("key(1)", x.key(1), 2222);
        Check.same("key(6)", x.key(6), 7777);
        Check.same("key(7)", x.key(7), 5);
    }

    @Says("Sets the key of an inn. Undoable.")
    static void promise03_setKeyIsUndone() {
        Check.undoes(Given::road, "setKey(3, 5)", x -> x.setKey(3, 5));
        Check.undoes(Given::road, "setKey(3, 4444)", x -> x.setKey(3, 4444));
    }

    @Says({INN, NO_SUCH_INN})
    static void promise03_setKeyOfNoInn() {
        Check.indexRange(Given::busy, "setKey(inn, 0)", 0, 7, (x, inn) -> x.setKey(inn, 0));
        Check.index(Given::busy, "setKey(8, 10000)", x -> x.setKey(8, 10000));
        Check.index(Given::busy, "setKey(-1, -1)", x -> x.setKey(-1, -1));
    }

    @Says({"`key`: 0 to 9999", "Throws `IllegalArgumentException` if key is out of range"})
    static void promise03_setKeyOutOfRange() {
        Check.argumentRange(Given::busy, "setKey(0, key)", 0, 9999, (x, key) -> x.setKey(0, key));
        Check.argumentRange(Given::busy, "setKey(7, key)", 0, 9999, (x, key) -> x.setKey(7, key));
    }

    @Says({"Tells whether an inn is open.", "Returns true if it is."})
    static void promise04_isOpen() {
        for (int closed = 0; closed < 8; closed++) {
            NestedEnvelopes x = new NestedEnvelopes();
            x.setOpen(closed, false);
            for (int inn = 0; inn < 8; inn++) {
                Check.same("isOpen(" + inn + ") without " + closed, x.isOpen(inn), inn != closed);
            }
        }
    }

    @Says({INN, NO_SUCH_INN})
    static void promise04_isOpenOfNoInn() {
        Check.indexRange(Given::busy, "isOpen()", 0, 7, (x, inn) -> x.isOpen(inn));
    }

    @Says({"Returns the key of an inn.", "Returns the key."})
    static void promise05_key() {
        for (int changed = 0; changed < 8; changed++) {
            NestedEnvelopes x = new NestedEnvelopes();
            x.setKey(changed, 44);
            for (int inn = 0; inn < 8; inn++) {
                Check.same("key(" + inn + ")", x.key(inn), inn == changed ? 44 : 1111 * (inn + 1));
            }
        }
    }

    @Says({INN, NO_SUCH_INN})
    static void promise05_keyOfNoInn() {
        Check.indexRange(Given::busy, "key()", 0, 7, (x, inn) -> x.key(inn));
    }

    @Says({"Covers a body with the key of an inn.", "Returns the covered body."})
    static void promise06_cover() {
        NestedEnvelopes x = new NestedEnvelopes();
        Check.same("cover(0, 42)", x.cover(0, 42), 1405);
        Check.same("cover(0, 0)", x.cover(0, 0), 1111);
        Check.same("cover(7, 9999)", x.cover(7, 9999), 8881);
        x.setKey(7, 9999);
        Check.same("cover(7, 9999) with the key 9999", x.cover(7, 9999), 9992);
        Check.same("cover(7, 0) with the key 9999", x.cover(7, 0), 9999);
    }

    @Says({INN, NO_SUCH_INN})
    static void promise06_coverOfNoInn() {
        Check.indexRange(Given::busy, "cover(inn, 5)", 0, 7, (x, inn) -> x.cover(inn, 5));
        Check.index(Given::busy, "cover(8, 10000)", x -> x.cover(8, 10000));
        Check.index(Given::busy, "cover(-1, -1)", x -> x.cover(-1, -1));
    }

    @Says({"`body`: 0 to 9999", "Throws `IllegalArgumentException` if body is out of range"})
    static void promise06_coverOutOfRange() {
        Check.argumentRange(Given::busy, "cover(0, body)", 0, 9999, (x, body) -> x.cover(0, body));
        Check.argumentRange(Given::busy, "cover(7, body)", 0, 9999, (x, body) -> x.cover(7, body));
    }

    @Says({"Uncovers a body with the key of an inn.", "Returns the uncovered body."})
    static void promise07_uncover() {
        NestedEnvelopes x = new NestedEnvelopes();
        Check.same("uncover(0, 0)", x.uncover(0, 0), 4127);
        Check.same("uncover(0, 1111)", x.uncover(0, 1111), 0);
        Check.same("uncover(0, 1405)", x.uncover(0, 1405), 42);
        Check.same("uncover(7, 8881)", x.uncover(7, 8881), 9999);
        x.setKey(7, 9999);
        Check.same("uncover(7, 9992) with the key 9999", x.uncover(7, 9992), 9999);
        Check.same("uncover(7, 9999) with the key 9999", x.uncover(7, 9999), 0);
    }

    @Says({INN, NO_SUCH_INN})
    static void promise07_uncoverOfNoInn() {
        Check.indexRange(Given::busy, "uncover(inn, 5)", 0, 7, (x, inn) -> x.uncover(inn, 5));
        Check.index(Given::busy, "uncover(8, 10000)", x -> x.uncover(8, 10000));
        Check.index(Given::busy, "uncover(-1, -1)", x -> x.uncover(-1, -1));
    }

    @Says({"`body`: 0 to 9999", "Throws `IllegalArgumentException` if body is out of range"})
    static void promise07_uncoverOutOfRange() {
        Check.argumentRange(Given::busy, "uncover(0, body)", 0, 9999, (x, body) -> x.uncover(0, body));
        Check.argumentRange(Given::busy, "uncover(7, body)", 0, 9999, (x, body) -> x.uncover(7, body));
    }
}
