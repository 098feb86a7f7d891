/** Promises 8 to 15: the roads, and what the inns see of them. */
final class RoadsTest {

    private RoadsTest() {
    }

    private static NestedEnvelopes withSixRoads() {
        NestedEnvelopes x = new NestedEnvelopes();
        for (int road = 0; road < 6; road++) {
            x.lay(road, road + 1, road + 2, road % 4);
        }
        return x;
    }

    static void promise08_lay() {
        NestedEnvelopes x = new NestedEnvelopes();
        Check.same("lay(3, 5, 0, 2)", x.lay(3, 5, 0, 2), 0);
        Check.same("lay(7, 6, 0, 3)", x.lay(7, 6, 0, 3), 1);
        Check.same("lay(3, 5, 0, 2) again", x.lay(3, 5, 0, 2), 2);
        Check.same("roads()", x.roads(), 3);
        Check.same("savedStates()", x.savedStates(), 3);
        x.undo();
        Check.same("roads() after undo", x.roads(), 2);
    }

    static void promise08_layKeepsKeys() {
        NestedEnvelopes x = Check.withRoad();
        x.setKey(3, 0);
        x.setKey(5, 0);
        x.setKey(0, 0);
        x.lay(3, 5, 0, 2);
        x.send(0, 42);
        x.send(1, 42);
        Check.same("body on the old keys", x.envelope(0, 2), 9951);
        Check.same("body on the new keys", x.envelope(1, 2), 7 * 7 * 7 * 42 % 10000);
    }

    static void promise08_layWrong() {
        NestedEnvelopes x = new NestedEnvelopes();
        x.setOpen(4, false);
        Check.index(x, "lay(8, 8, 8, 0)", () -> x.lay(8, 8, 8, 0));
        Check.index(x, "lay(-1, 0, 1, 0)", () -> x.lay(-1, 0, 1, 0));
        Check.index(x, "lay(0, 8, 1, 0)", () -> x.lay(0, 8, 1, 0));
        Check.index(x, "lay(0, 1, 8, 0)", () -> x.lay(0, 1, 8, 0));
        Check.index(x, "lay(0, 1, 1, 4)", () -> x.lay(0, 1, 1, 4));
        Check.index(x, "lay(0, 1, 2, -1)", () -> x.lay(0, 1, 2, -1));
        Check.argument(x, "lay(0, 0, 4, 0)", () -> x.lay(0, 0, 4, 0));
        Check.argument(x, "lay(0, 4, 0, 0)", () -> x.lay(0, 4, 0, 0));
        Check.argument(x, "lay(4, 0, 0, 0)", () -> x.lay(4, 0, 0, 0));
        Check.state(x, "lay(4, 0, 1, 0)", () -> x.lay(4, 0, 1, 0));
        Check.state(x, "lay(0, 4, 1, 0)", () -> x.lay(0, 4, 1, 0));
        Check.state(x, "lay(0, 1, 4, 0)", () -> x.lay(0, 1, 4, 0));
    }

    static void promise08_layFull() {
        NestedEnvelopes x = withSixRoads();
        Check.same("roads()", x.roads(), 6);
        Check.state(x, "a seventh lay(0, 1, 2, 3)", () -> x.lay(0, 1, 2, 3));
        Check.argument(x, "a seventh lay(0, 0, 2, 3)", () -> x.lay(0, 0, 2, 3));
        Check.index(x, "a seventh lay(0, 0, 8, 3)", () -> x.lay(0, 0, 8, 3));
    }

    static void promise09_takeUp() {
        NestedEnvelopes x = withSixRoads();
        Check.same("takeUp()", x.takeUp(), 5);
        Check.same("takeUp() again", x.takeUp(), 4);
        Check.same("roads()", x.roads(), 4);
        Check.same("lay after it", x.lay(7, 0, 6, 1), 4);
        Check.same("inn(4, 1)", x.inn(4, 1), 7);
        x.undo();
        x.undo();
        Check.same("roads() after two undos", x.roads(), 5);
        Check.same("inn(4, 1) after two undos", x.inn(4, 1), 4);
    }

    static void promise09_takeUpWrong() {
        NestedEnvelopes x = new NestedEnvelopes();
        Check.state(x, "takeUp() without a road", () -> x.takeUp());
        x.lay(0, 1, 2, 0);
        x.lay(3, 4, 5, 1);
        x.send(1, 5);
        Check.state(x, "takeUp() under an envelope", () -> x.takeUp());
        x.pass(4);
        x.send(0, 5);
        Check.same("takeUp() with an envelope on another road", x.takeUp(), 1);
        Check.state(x, "takeUp() under the other envelope", () -> x.takeUp());
    }

    static void promise10_roads() {
        NestedEnvelopes x = new NestedEnvelopes();
        Check.same("roads()", x.roads(), 0);
        x.lay(0, 1, 2, 0);
        Check.same("roads() with one", x.roads(), 1);
        x.takeUp();
        Check.same("roads() with none again", x.roads(), 0);
    }

    static void promise11_inn() {
        NestedEnvelopes x = Check.withRoad();
        x.lay(7, 6, 1, 0);
        Check.same("inn(0, 1)", x.inn(0, 1), 3);
        Check.same("inn(0, 2)", x.inn(0, 2), 5);
        Check.same("inn(0, 3)", x.inn(0, 3), 0);
        Check.same("inn(1, 1)", x.inn(1, 1), 7);
        Check.same("inn(1, 3)", x.inn(1, 3), 1);
        Check.index(x, "inn(0, 0)", () -> x.inn(0, 0));
        Check.index(x, "inn(0, 4)", () -> x.inn(0, 4));
        Check.index(x, "inn(2, 1)", () -> x.inn(2, 1));
        Check.index(x, "inn(-1, 1)", () -> x.inn(-1, 1));
        x.takeUp();
        Check.index(x, "inn(1, 1) after takeUp()", () -> x.inn(1, 1));
    }

    static void promise12_hall() {
        NestedEnvelopes x = Check.withRoad();
        x.lay(7, 6, 1, 0);
        Check.same("hall(0)", x.hall(0), 2);
        Check.same("hall(1)", x.hall(1), 0);
        Check.index(x, "hall(2)", () -> x.hall(2));
        Check.index(x, "hall(-1)", () -> x.hall(-1));
    }

    static void promise13_stands() {
        NestedEnvelopes x = Check.withRoad();
        Check.same("stands(0)", x.stands(0), true);
        for (int inn : new int[] {3, 5, 0}) {
            x.setOpen(inn, false);
            Check.same("stands(0) without " + inn, x.stands(0), false);
            x.setOpen(inn, true);
            Check.same("stands(0) with " + inn, x.stands(0), true);
        }
        x.setOpen(1, false);
        Check.same("stands(0) without another inn", x.stands(0), true);
        Check.index(x, "stands(1)", () -> x.stands(1));
        Check.index(x, "stands(-1)", () -> x.stands(-1));
    }

    static void promise14_see() {
        NestedEnvelopes x = Check.withRoad();
        Check.same("see(3, 0, 0)", x.see(3, 0, 0), NestedEnvelopes.TRAVELLER);
        Check.same("see(3, 0, 1)", x.see(3, 0, 1), 5);
        Check.same("see(5, 0, 0)", x.see(5, 0, 0), 3);
        Check.same("see(5, 0, 1)", x.see(5, 0, 1), 0);
        Check.same("see(0, 0, 0)", x.see(0, 0, 0), 5);
        Check.same("see(0, 0, 1)", x.see(0, 0, 1), 12);
        Check.same("see(1, 0, 0)", x.see(1, 0, 0), NestedEnvelopes.NONE);
        Check.same("see(7, 0, 1)", x.see(7, 0, 1), NestedEnvelopes.NONE);
        x.setOpen(5, false);
        Check.same("see(3, 0, 1) when 5 is closed", x.see(3, 0, 1), 5);
        Check.index(x, "see(8, 0, 0)", () -> x.see(8, 0, 0));
        Check.index(x, "see(-1, 0, 0)", () -> x.see(-1, 0, 0));
        Check.index(x, "see(0, 1, 0)", () -> x.see(0, 1, 0));
        Check.index(x, "see(0, -1, 0)", () -> x.see(0, -1, 0));
        Check.index(x, "see(0, 0, 2)", () -> x.see(0, 0, 2));
        Check.index(x, "see(0, 0, -1)", () -> x.see(0, 0, -1));
        Check.index(x, "see(1, 0, 2)", () -> x.see(1, 0, 2));
    }

    static void promise15_known() {
        NestedEnvelopes x = Check.withRoad();
        Check.same("known(3)", x.known(3), 1 << 5);
        Check.same("known(5)", x.known(5), 1 << 3 | 1);
        Check.same("known(0)", x.known(0), 1 << 5);
        Check.same("known(1)", x.known(1), 0);
        x.lay(5, 7, 3, 0);
        Check.same("known(5) of two roads", x.known(5), 1 << 3 | 1 | 1 << 7);
        Check.same("known(3) of two roads", x.known(3), 1 << 5 | 1 << 7);
        x.setOpen(7, false);
        Check.same("known(3) when 7 is closed", x.known(3), 1 << 5 | 1 << 7);
        x.takeUp();
        Check.same("known(7) when its road is taken up", x.known(7), 0);
        Check.index(x, "known(8)", () -> x.known(8));
        Check.index(x, "known(-1)", () -> x.known(-1));
    }
}
