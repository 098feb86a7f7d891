/** Promises 32 to 34: undo and the hash. */
final class UndoTest {

    private UndoTest() {
    }

    // ---- undo

    @Says({"Restores the state that was saved last, and removes it from the saved states.",
        "Returns the number of saved states that are left."})
    static void promise32_undo() {
        NestedEnvelopes x = new NestedEnvelopes();
        String[] looks = new String[6];
        for (int step = 0; step < 6; step++) {
            looks[step] = Check.look(x);
            x.setKey(0, step);
        }
        for (int left = 5; left >= 0; left--) {
            Check.same("undo()", x.undo(), left);
            Check.same("savedStates()", x.savedStates(), left);
            Check.sameText("all after undo()", Check.look(x), looks[left]);
        }
    }

    @Says("Restores the state that was saved last, and removes it from the saved states.")
    static void promise32_undoAndGoOn() {
        NestedEnvelopes x = new NestedEnvelopes();
        for (int key = 1; key <= 20; key++) {
            x.setKey(0, key);
            x.setKey(1, key);
            x.undo();
        }
        Check.same("key(0)", x.key(0), 20);
        Check.same("key(1)", x.key(1), 2222);
        Check.same("undo()", x.undo(), 4);
        Check.same("key(0) after undo()", x.key(0), 19);
        x.undo();
        x.undo();
        x.undo();
        Check.same("the last undo()", x.undo(), 0);
        Check.same("key(0) at the oldest", x.key(0), 15);
    }

    @Says("Restores the state that was saved last,")
    static void promise32_undoRestoresEnvelopes() {
        NestedEnvelopes x = Given.delivered();
        x.answer(2, 7);
        x.send(0, 8);
        long before = x.digest();
        Given.write(x, "c3;c1;t9");
        x.run();
        Check.same("envelopes()", x.envelopes(), 0);
        x.undo();
        Check.same("digest() after undo()", x.digest(), before);
        Check.envelope(x, 0, 0, 4, 7, 1);
        Check.envelope(x, 1, 0, 0, (7 * ((7 * (7 * 8 + 1111) + 6666) % 10000) + 4444) % 10000, 0);
        Check.same("pass(9)", x.pass(9), 2);
        Check.same("letter(2)", x.letter(2), 8);
        Check.same("lastAnswer()", x.lastAnswer(), 7);
    }

    private static NestedEnvelopes undone(int calls, int undos) {
        NestedEnvelopes x = Given.fresh();
        for (int call = 0; call < calls; call++) {
            x.setOpen(0, false);
        }
        for (int undo = 0; undo < undos; undo++) {
            x.undo();
        }
        return x;
    }

    @Says("Throws `IllegalStateException` if no state is saved")
    static void promise32_undoOfNothing() {
        Check.state(Given::fresh, "undo() of nothing", x -> x.undo());
        Check.state(() -> Given.text("c1;x"), "undo() of a text", x -> x.undo());
        for (int calls = 1; calls <= 8; calls++) {
            int saved = Math.min(6, calls);
            int made = calls;
            Check.same("the last undo() after " + calls, undone(calls, saved - 1).undo(), 0);
            Check.state(() -> undone(made, saved), "one undo() more after " + calls, x -> x.undo());
        }
    }

    @Says("Returns the number of saved states, 0 to 6.")
    static void promise33_savedStates() {
        NestedEnvelopes x = new NestedEnvelopes();
        for (int calls = 0; calls < 15; calls++) {
            Check.same("savedStates()", x.savedStates(), Math.min(6, calls));
            x.setOpen(0, true);
        }
        for (int left = 6; left > 0; left--) {
            Check.same("savedStates()", x.savedStates(), left);
            x.undo();
        }
        Check.same("savedStates() at last", x.savedStates(), 0);
    }

    @Says("Returns the number of saved states, 0 to 6.")
    static void promise33_otherCallsDoNotSave() {
        Check.changesNothing(Given::busy, "all that is asked", x -> {
            askInns(x);
            askRoads(x);
            x.lostIfClosed(0);
            x.ticksTo(0);
            x.leastWork(1);
            x.firstError();
            x.savedStates();
            x.digest();
        });
        NestedEnvelopes y = Given.busy();
        y.undo();
        int before = y.savedStates();
        y.append('c');
        Check.same("savedStates() after append()", y.savedStates(), before);
        y.clearText();
        Check.same("savedStates() after clearText()", y.savedStates(), before);
    }

    private static void askInns(NestedEnvelopes x) {
        x.isOpen(0);
        x.key(0);
        x.cover(0, 1);
        x.uncover(0, 1);
        x.known(0);
        x.letter(2);
        x.lastAnswer();
        x.count(0);
        x.deliveredShare();
    }

    private static void askRoads(NestedEnvelopes x) {
        x.roads();
        x.inn(0, 1);
        x.hall(0);
        x.stands(0);
        x.see(0, 0, 0);
        x.envelopes();
        x.envelope(0, 0);
    }

    // ---- digest

    private static long hashOf(long[] values) {
        long hash = 4726;
        for (long value : values) {
            hash = 31 * hash + value;
        }
        return hash;
    }

    @Says({"Computes a hash of the state.", "The hash starts at 4726.", "Returns the hash.", "For each value v of the"
        + " following list, in order, the hash becomes 31 * hash + v, in long arithmetic with overflow."})
    static void promise34_digestOfANewObject() {
        long due = hashOf(new long[] {0, 0, -1, 0, 0, 0, 0, 0,
            1, 1111, 0, 0, 1, 2222, 0, 0, 1, 3333, 0, 0, 1, 4444, 0, 0, 1, 5555, 0, 0, 1, 6666, 0, 0,
            1, 7777, 0, 0, 1, 8888, 0, 0, -1, -1, -1, -1, 0, 1, 2});
        Check.same("digest()", new NestedEnvelopes().digest(), due);
        Check.same("digest(), reckoned outside Java", new NestedEnvelopes().digest(), 4111884354124570102L);
    }

    @Says({"The values are: what roads(), envelopes() and lastAnswer() return; what count() returns for 0 to 4;",
        "for each inn 1 if it is open, otherwise 0, its key, and what known() and lostIfClosed() return;",
        "for each road its three inns, its hall, and 1 if it stands, otherwise 0;",
        "for each envelope what envelope() returns for 0 to 3, and what ticksTo() returns;",
        "for each hall what letter() returns; what leastWork() returns for 1 to 3."})
    static void promise34_digest() {
        NestedEnvelopes x = Given.delivered();
        x.answer(2, 9999);
        x.send(0, 42);
        x.setOpen(0, false);
        x.setOpen(7, false);
        Check.same("digest()", x.digest(), hashOf(new long[] {1, 2, -1, 2, 1, 1, 0, 0,
            0, 1111, 32, 2, 1, 2222, 0, 2, 1, 3333, 0, 2, 1, 4444, 32, 2, 1, 5555, 0, 2, 1, 6666, 9, 2,
            1, 7777, 0, 2, 0, 8888, 0, 2, 3, 5, 0, 2, 0, 0, 4, 9999, 1, -1, 0, 0, 9951, 0, -1,
            -1, -1, 42, -1, 1, 2, 4}));
        NestedEnvelopes y = Given.road();
        y.lay(7, 6, 1, 0);
        y.send(1, 0);
        y.pass(3);
        y.setKey(7, 0);
        Check.same("digest() of two roads", y.digest(), hashOf(new long[] {2, 1, -1, 1, 0, 0, 0, 0,
            1, 1111, 32, 0, 1, 2222, 64, 0, 1, 3333, 0, 0, 1, 4444, 32, 0, 1, 5555, 0, 0, 1, 6666, 9, 0,
            1, 7777, 130, 0, 1, 0, 64, 0, 3, 5, 0, 2, 1, 7, 6, 1, 0, 1, 1, 3, 0, 0, 1,
            -1, -1, -1, -1, 2, 4, 0}));
    }

    /** The hash as the document says it, from what the other calls return. */
    private static long hashAsSaid(NestedEnvelopes x) {
        long hash = hashOf(new long[] {x.roads(), x.envelopes(), x.lastAnswer(), x.count(0), x.count(1), x.count(2),
            x.count(3), x.count(4)});
        for (int inn = 0; inn < 8; inn++) {
            hash = 31 * hash + (x.isOpen(inn) ? 1 : 0);
            hash = 31 * hash + x.key(inn);
            hash = 31 * hash + x.known(inn);
            hash = 31 * hash + x.lostIfClosed(inn);
        }
        for (int road = 0; road < x.roads(); road++) {
            for (int place = 1; place <= 3; place++) {
                hash = 31 * hash + x.inn(road, place);
            }
            hash = 31 * hash + x.hall(road);
            hash = 31 * hash + (x.stands(road) ? 1 : 0);
        }
        for (int envelope = 0; envelope < x.envelopes(); envelope++) {
            for (int what = 0; what < 4; what++) {
                hash = 31 * hash + x.envelope(envelope, what);
            }
            hash = 31 * hash + x.ticksTo(envelope);
        }
        for (int hall = 0; hall < 4; hall++) {
            hash = 31 * hash + x.letter(hall);
        }
        for (int place = 1; place <= 3; place++) {
            hash = 31 * hash + x.leastWork(place);
        }
        return hash;
    }

    @Says("For each value v of the following list, in order, the hash becomes 31 * hash + v,")
    static void promise34_digestIsMadeOfTheAnswers() {
        Check.same("digest() of six roads", Given.sixRoads().digest(), hashAsSaid(Given.sixRoads()));
        Check.same("digest() of twelve", Given.twelve().digest(), hashAsSaid(Given.twelve()));
        Check.same("digest() of answers", Given.answers(12).digest(), hashAsSaid(Given.answers(12)));
        NestedEnvelopes x = Given.busy();
        for (int call = 0; call < 4; call++) {
            Check.same("digest() of many things", x.digest(), hashAsSaid(x));
            x.pass(1);
        }
    }

    @Says("Computes a hash of the state.")
    static void promise34_digestLeavesOutTheBuffer() {
        NestedEnvelopes x = Given.road();
        long before = x.digest();
        Given.write(x, "c1");
        Check.same("digest() with a buffer", x.digest(), before);
        x.setOpen(1, true);
        Check.same("digest() with one more saved state", x.digest(), before);
        x.digest();
        Check.same("digest() again", x.digest(), before);
    }
}
