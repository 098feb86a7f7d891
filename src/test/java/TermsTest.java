/** The document's Terms on inns, covers, roads and exceptions. */
final class TermsTest {

    private TermsTest() {
    }

    // ---- inns, covers

    @Says("There are eight inns, numbered from 0.")
    static void terms_eightInns() {
        Check.indexRange(Given::fresh, "key()", 0, 7, (x, inn) -> x.key(inn));
    }

    @Says("An inn has a key from 0 to 9999,")
    static void terms_keyRange() {
        Check.argumentRange(Given::fresh, "setKey(0, key)", 0, 9999, (x, key) -> x.setKey(0, key));
        NestedEnvelopes x = Given.fresh();
        x.setKey(0, 0);
        x.setKey(7, 9999);
        Check.same("the least key", x.key(0), 0);
        Check.same("the greatest key", x.key(7), 9999);
    }

    @Says("at first 1111 times (its number + 1),")
    static void terms_firstKeys() {
        int[] keys = {1111, 2222, 3333, 4444, 5555, 6666, 7777, 8888};
        for (int inn = 0; inn < 8; inn++) {
            Check.same("key(" + inn + ")", Given.fresh().key(inn), keys[inn]);
        }
    }

    @Says("and is open or closed, at first open.")
    static void terms_firstOpen() {
        for (int inn = 0; inn < 8; inn++) {
            NestedEnvelopes x = Given.fresh();
            Check.same("isOpen(" + inn + ")", x.isOpen(inn), true);
            x.setOpen(inn, false);
            Check.same("isOpen(" + inn + ") when closed", x.isOpen(inn), false);
        }
    }

    @Says("A body is a number from 0 to 9999.")
    static void terms_bodyRange() {
        Check.argumentRange(Given::fresh, "cover(0, body)", 0, 9999, (x, body) -> x.cover(0, body));
        Check.argumentRange(Given::fresh, "uncover(0, body)", 0, 9999, (x, body) -> x.uncover(0, body));
        Check.argumentRange(Given::road, "send(0, body)", 0, 9999, (x, body) -> x.send(0, body));
        Check.argumentRange(Given::delivered, "answer(2, body)", 0, 9999, (x, body) -> x.answer(2, body));
    }

    private static void covers(int key, int body, int due) {
        NestedEnvelopes x = Given.fresh();
        x.setKey(4, key);
        Check.same("cover(4, " + body + ") with the key " + key, x.cover(4, body), due);
    }

    @Says("To cover a body b with a key k gives the remainder of 7 * b + k modulo 10000.")
    static void terms_coverAroundTheModulus() {
        covers(0, 0, 0);
        covers(1, 0, 1);
        covers(0, 1, 7);
        covers(9999, 0, 9999);
        covers(9992, 1, 9999);
        covers(9993, 1, 0);
        covers(9994, 1, 1);
        covers(0, 1428, 9996);
        covers(3, 1428, 9999);
        covers(4, 1428, 0);
        covers(0, 1429, 3);
        covers(6, 9999, 9999);
        covers(7, 9999, 0);
        covers(0, 9999, 9993);
        covers(9999, 9999, 9992);
    }

    private static void uncovers(int key, int body, int due) {
        NestedEnvelopes x = Given.fresh();
        x.setKey(4, key);
        Check.same("uncover(4, " + body + ") with the key " + key, x.uncover(4, body), due);
    }

    @Says("(It is 7143 * (body - k), modulo 10000.)")
    static void terms_uncoverAroundTheKey() {
        uncovers(0, 0, 0);
        uncovers(5555, 5555, 0);
        uncovers(5555, 5556, 7143);
        uncovers(5555, 5554, 2857);
        uncovers(5555, 5562, 1);
        uncovers(5555, 5548, 9999);
        uncovers(9999, 9999, 0);
        uncovers(9999, 0, 7143);
        uncovers(1, 0, 2857);
        uncovers(0, 9999, 2857);
        uncovers(9999, 1, 4286);
    }

    private static void uncoversAll(int key) {
        NestedEnvelopes x = Given.fresh();
        for (int body = 0; body < 10000; body++) {
            if (body % 200 == 0) {
                x = Given.fresh();
                x.setKey(5, key);
            }
            Check.same("cover(5, uncover(5, " + body + "))", x.cover(5, x.uncover(5, body)), body);
        }
    }

    @Says("To uncover a body with the key k gives the body that, covered with k, is this body.")
    static void terms_uncoverTakesCoverBack() {
        uncoversAll(0);
        uncoversAll(6666);
        uncoversAll(9999);
    }

    // ---- roads

    @Says("There are at most 6 roads,")
    static void terms_sixRoads() {
        NestedEnvelopes x = Given.fresh();
        for (int road = 0; road < 6; road++) {
            Check.same("lay()", x.lay(0, 1, 2, 0), road);
        }
        Check.state(Given::sixRoads, "a seventh lay()", y -> y.lay(0, 1, 2, 0));
        x.takeUp();
        Check.same("lay() when there is a place again", x.lay(0, 1, 2, 0), 5);
    }

    @Says("numbered from 0 in the order in which they are laid.")
    static void terms_roadNumbers() {
        NestedEnvelopes x = Given.sixRoads();
        for (int road = 0; road < 6; road++) {
            Check.same("the first inn of " + road, x.inn(road, 1), road);
        }
        x.takeUp();
        x.takeUp();
        Check.same("lay() after two takeUp()", x.lay(7, 3, 1, 2), 4);
        Check.same("the first inn of 3", x.inn(3, 1), 3);
        Check.same("the first inn of 4", x.inn(4, 1), 7);
    }

    @Says("A road leads from the traveller through three different inns, the first, the second and the third one,")
    static void terms_threeDifferentInns() {
        for (int number = 0; number < 512; number++) {
            int first = number / 64;
            int second = number / 8 % 8;
            int third = number % 8;
            String name = "lay(" + first + ", " + second + ", " + third + ", 0)";
            if (first == second || first == third || second == third) {
                Check.argument(Given::fresh, name, x -> x.lay(first, second, third, 0));
            } else {
                NestedEnvelopes x = Given.fresh();
                x.lay(first, second, third, 0);
                Check.same("first inn of " + name, x.inn(0, 1), first);
                Check.same("second inn of " + name, x.inn(0, 2), second);
                Check.same("third inn of " + name, x.inn(0, 3), third);
            }
        }
    }

    @Says("to a hall, which is a number from 0 to 3.")
    static void terms_halls() {
        Check.indexRange(Given::fresh, "lay(0, 1, 2, hall)", 0, 3, (x, hall) -> x.lay(0, 1, 2, hall));
        for (int hall = 0; hall < 4; hall++) {
            NestedEnvelopes x = Given.fresh();
            x.lay(0, 1, 2, hall);
            Check.same("hall(0)", x.hall(0), hall);
        }
    }

    @Says("A road keeps the keys that its three inns had when it was laid;")
    static void terms_roadKeepsKeys() {
        for (int inn : new int[] {3, 5, 0}) {
            NestedEnvelopes x = Given.road();
            x.setKey(inn, 9);
            x.send(0, 42);
            Check.same("the body when the key of " + inn + " is new", x.envelope(0, 2), 9951);
            x.pass(4);
            Check.same("the letter when the key of " + inn + " is new", x.letter(2), 42);
        }
    }

    @Says("changes of keys matter only for new roads.")
    static void terms_newRoadsHaveNewKeys() {
        NestedEnvelopes x = Given.road();
        x.setKey(3, 0);
        x.setKey(5, 0);
        x.setKey(0, 0);
        x.lay(3, 5, 0, 2);
        x.setKey(3, 1);
        x.send(0, 42);
        x.send(1, 42);
        Check.same("the body on the old keys", x.envelope(0, 2), 9951);
        Check.same("the body on the new keys", x.envelope(1, 2), 7 * 7 * 7 * 42 % 10000);
    }

    @Says("A road stands if its three inns are open.")
    static void terms_roadStands() {
        int[] inns = {3, 5, 0};
        for (int closed = 0; closed < 8; closed++) {
            NestedEnvelopes x = Given.road();
            for (int place = 0; place < 3; place++) {
                x.setOpen(inns[place], (closed >> place & 1) == 0);
            }
            Check.same("stands(0) when the places " + closed + " are closed", x.stands(0), closed == 0);
        }
    }

    @Says({"In an inn on a road, what is seen of the road is what is beside the inn:",
        "for the first inn the traveller and the second inn,"})
    static void terms_firstInnSees() {
        Check.same("see(3, 0, 0)", Given.road().see(3, 0, 0), 8);
        Check.same("see(3, 0, 1)", Given.road().see(3, 0, 1), 5);
    }

    @Says("for the second one the first and the third inn,")
    static void terms_secondInnSees() {
        Check.same("see(5, 0, 0)", Given.road().see(5, 0, 0), 3);
        Check.same("see(5, 0, 1)", Given.road().see(5, 0, 1), 0);
    }

    @Says("for the third one the second inn and the hall.")
    static void terms_thirdInnSees() {
        Check.same("see(0, 0, 0)", Given.road().see(0, 0, 0), 5);
        Check.same("see(0, 0, 1)", Given.road().see(0, 0, 1), 12);
    }

    // ---- exceptions

    @Says("A call that throws an exception changes nothing.")
    static void terms_throwChangesNothing() {
        Check.index(Given::busy, "setOpen(8, true)", x -> x.setOpen(8, true));
        Check.argument(Given::busy, "setKey(0, 10000)", x -> x.setKey(0, 10000));
        Check.state(Given::busy, "lay(6, 0, 1, 0)", x -> x.lay(6, 0, 1, 0));
        Check.state(Given::busy, "takeUp()", x -> x.takeUp());
        Check.argument(Given::busy, "send(1, 10000)", x -> x.send(1, 10000));
        Check.state(Given::busy, "answer(3, 5)", x -> x.answer(3, 5));
        Check.argument(Given::busy, "pass(10)", x -> x.pass(10));
        Check.argument(Given::busy, "append(32)", x -> x.append(32));
        Check.argument(() -> Given.text("c1;"), "run()", x -> x.run());
        Check.state(() -> Given.text("c1"), "undo()", x -> x.undo());
    }

    @Says("If more than one exception applies to a call, the one that is listed first in its throws clause is thrown.")
    static void terms_firstListedIsThrown() {
        Check.index(Given::fresh, "setKey(8, 10000)", x -> x.setKey(8, 10000));
        Check.index(Given::fresh, "cover(8, 10000)", x -> x.cover(8, 10000));
        Check.index(Given::fresh, "uncover(-1, -1)", x -> x.uncover(-1, -1));
        Check.index(Given::sixRoads, "lay(0, 0, 8, 0)", x -> x.lay(0, 0, 8, 0));
        Check.argument(Given::sixRoads, "lay(0, 0, 1, 0)", x -> x.lay(0, 0, 1, 0));
        Check.index(Given::twelve, "send(1, 10000)", x -> x.send(1, 10000));
        Check.argument(Given::twelve, "send(0, 10000)", x -> x.send(0, 10000));
        Check.index(Given::twelve, "answer(4, 10000)", x -> x.answer(4, 10000));
        Check.argument(Given::twelve, "answer(2, 10000)", x -> x.answer(2, 10000));
        Check.argument(() -> Given.text(Given.sixtyCharacters()), "append(127)", x -> x.append(127));
    }

    @Says("\"There is no such inn\" (0 to 7), hall (0 to 3), road or envelope means that the number is out of range.")
    static void terms_noSuchNumber() {
        Check.indexRange(Given::fresh, "isOpen()", 0, 7, (x, inn) -> x.isOpen(inn));
        Check.indexRange(Given::fresh, "letter()", 0, 3, (x, hall) -> x.letter(hall));
        Check.indexRange(Given::fresh, "hall() without a road", 0, -1, (x, road) -> x.hall(road));
        Check.indexRange(Given::road, "hall() of one road", 0, 0, (x, road) -> x.hall(road));
        Check.indexRange(Given::sixRoads, "hall() of six roads", 0, 5, (x, road) -> x.hall(road));
        Check.indexRange(Given::road, "ticksTo() of nothing", 0, -1, (x, envelope) -> x.ticksTo(envelope));
        Check.indexRange(() -> Given.letters(1), "ticksTo() of one", 0, 0, (x, envelope) -> x.ticksTo(envelope));
        Check.indexRange(Given::twelve, "ticksTo() of twelve", 0, 11, (x, envelope) -> x.ticksTo(envelope));
    }

    @Says("`NONE = -1`: There is no such number.")
    static void terms_none() {
        Check.same("NONE", NestedEnvelopes.NONE, -1);
    }

    @Says("`TRAVELLER = 8`: What is seen of the traveller, in see().")
    static void terms_traveller() {
        Check.same("TRAVELLER", NestedEnvelopes.TRAVELLER, 8);
        Check.same("see(3, 0, 0)", Given.road().see(3, 0, 0), NestedEnvelopes.TRAVELLER);
    }
}
