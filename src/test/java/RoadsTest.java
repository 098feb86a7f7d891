/** Promises 8 to 15: the roads, and what the inns see of them. */
final class RoadsTest {

    private static final String NO_SUCH_ROAD = "Throws `IndexOutOfBoundsException` if there is no such road";
    private static final String ROAD = "`road`: the number of a road";

    private RoadsTest() {
    }

    private static NestedEnvelopes roads(int count) {
        NestedEnvelopes x = Given.fresh();
        for (int road = 0; road < count; road++) {
            x.lay(road, 7, 6, 3);
        }
        return x;
    }

    private static NestedEnvelopes without(int closed) {
        NestedEnvelopes x = Given.fresh();
        x.setOpen(closed, false);
        return x;
    }

    // ---- lay

    @Says({"Lays a road.", "Returns the number of the road.", "`first`: 0 to 7, the first inn",
        "`second`: 0 to 7, the second inn", "`third`: 0 to 7, the third inn", "`hall`: 0 to 3"})
    static void promise08_lay() {
        NestedEnvelopes x = new NestedEnvelopes();
        Check.same("lay(3, 5, 0, 2)", x.lay(3, 5, 0, 2), 0);
        Check.same("lay(7, 6, 0, 3)", x.lay(7, 6, 0, 3), 1);
        Check.same("lay(3, 5, 0, 2) again", x.lay(3, 5, 0, 2), 2);
        Check.same("lay(0, 7, 1, 0)", x.lay(0, 7, 1, 0), 3);
        Check.same("lay(1, 0, 7, 1)", x.lay(1, 0, 7, 1), 4);
        Check.same("lay(4, 2, 6, 0)", x.lay(4, 2, 6, 0), 5);
        Check.same("roads()", x.roads(), 6);
        Check.same("inn(1, 1)", x.inn(1, 1), 7);
        Check.same("inn(1, 2)", x.inn(1, 2), 6);
        Check.same("inn(1, 3)", x.inn(1, 3), 0);
        Check.same("hall(1)", x.hall(1), 3);
        Check.same("hall(3)", x.hall(3), 0);
    }

    @Says("Lays a road. Undoable.")
    static void promise08_layIsUndone() {
        Check.undoes(Given::fresh, "lay(3, 5, 0, 2)", x -> x.lay(3, 5, 0, 2));
        Check.undoes(() -> roads(5), "a sixth lay()", x -> x.lay(3, 5, 0, 2));
        Check.undoes(() -> laidFrom(Given.delivered()), "lay() after takeUp()", x -> x.lay(3, 5, 0, 2));
    }

    private static NestedEnvelopes laidFrom(NestedEnvelopes x) {
        x.takeUp();
        return x;
    }

    @Says("Throws `IndexOutOfBoundsException` if there is no such inn or hall")
    static void promise08_layWithNoSuchNumber() {
        Check.indexRange(Given::road, "lay(first)", 0, 7, (x, inn) -> x.lay(inn, besides1(inn), besides2(inn), 0));
        Check.indexRange(Given::road, "lay(second)", 0, 7, (x, inn) -> x.lay(besides1(inn), inn, besides2(inn), 0));
        Check.indexRange(Given::road, "lay(third)", 0, 7, (x, inn) -> x.lay(besides1(inn), besides2(inn), inn, 0));
        Check.indexRange(Given::road, "lay(1, 2, 3, hall)", 0, 3, (x, hall) -> x.lay(1, 2, 3, hall));
    }

    // Two more inns, so that all three are different.
    private static int besides1(int inn) {
        return inn == 1 ? 3 : 1;
    }

    private static int besides2(int inn) {
        return inn == 2 ? 3 : 2;
    }

    @Says("Throws `IndexOutOfBoundsException` if there is no such inn or hall")
    static void promise08_layWithNoSuchNumberFirst() {
        Check.index(Given::road, "lay(8, 8, 1, 0)", x -> x.lay(8, 8, 1, 0));
        Check.index(Given::road, "lay(1, 1, 8, 0)", x -> x.lay(1, 1, 8, 0));
        Check.index(Given::road, "lay(1, 8, 1, 0)", x -> x.lay(1, 8, 1, 0));
        Check.index(Given::road, "lay(1, 1, 2, 4)", x -> x.lay(1, 1, 2, 4));
        Check.index(() -> without(1), "lay(1, 2, 3, 4) without 1", x -> x.lay(1, 2, 3, 4));
        Check.index(() -> without(1), "lay(1, 2, 8, 0) without 1", x -> x.lay(1, 2, 8, 0));
        Check.index(Given::sixRoads, "a seventh lay(0, 1, -1, 3)", x -> x.lay(0, 1, -1, 3));
        Check.index(Given::sixRoads, "a seventh lay(0, 1, 2, -1)", x -> x.lay(0, 1, 2, -1));
    }

    @Says("Throws `IllegalArgumentException` if two of the inns are the same")
    static void promise08_layWithTheSameInns() {
        Check.argument(Given::road, "lay(1, 1, 2, 0)", x -> x.lay(1, 1, 2, 0));
        Check.argument(Given::road, "lay(1, 2, 1, 0)", x -> x.lay(1, 2, 1, 0));
        Check.argument(Given::road, "lay(2, 1, 1, 0)", x -> x.lay(2, 1, 1, 0));
        Check.argument(Given::road, "lay(1, 1, 1, 0)", x -> x.lay(1, 1, 1, 0));
        Check.argument(() -> without(1), "lay(1, 1, 2, 0) without 1", x -> x.lay(1, 1, 2, 0));
        Check.argument(() -> without(1), "lay(2, 2, 1, 0) without 1", x -> x.lay(2, 2, 1, 0));
        Check.argument(() -> without(1), "lay(1, 2, 2, 0) without 1", x -> x.lay(1, 2, 2, 0));
        Check.argument(Given::sixRoads, "a seventh lay(0, 0, 2, 3)", x -> x.lay(0, 0, 2, 3));
        Check.argument(Given::sixRoads, "a seventh lay(0, 2, 0, 3)", x -> x.lay(0, 2, 0, 3));
    }

    @Says("Throws `IllegalStateException` if there are 6 roads,")
    static void promise08_layWhenThereAreSix() {
        for (int count = 0; count < 6; count++) {
            Check.same("lay() when there are " + count, roads(count).lay(0, 1, 2, 3), count);
        }
        Check.state(() -> roads(6), "lay() when there are 6", x -> x.lay(0, 1, 2, 3));
    }

    @Says("or one of the inns is closed")
    static void promise08_layWithAClosedInn() {
        Check.state(() -> without(4), "lay(4, 0, 1, 0) without 4", x -> x.lay(4, 0, 1, 0));
        Check.state(() -> without(4), "lay(0, 4, 1, 0) without 4", x -> x.lay(0, 4, 1, 0));
        Check.state(() -> without(4), "lay(0, 1, 4, 0) without 4", x -> x.lay(0, 1, 4, 0));
        Check.same("lay(0, 1, 2, 0) without 4", without(4).lay(0, 1, 2, 0), 0);
        NestedEnvelopes x = without(4);
        x.setOpen(4, true);
        Check.same("lay(4, 0, 1, 0) when 4 is open again", x.lay(4, 0, 1, 0), 0);
    }

    // ---- takeUp

    @Says({"Takes the last road up.", "Returns the number of roads that are left."})
    static void promise09_takeUp() {
        NestedEnvelopes x = Given.sixRoads();
        for (int left = 5; left >= 0; left--) {
            Check.same("takeUp()", x.takeUp(), left);
            Check.same("roads()", x.roads(), left);
            if (left > 0) {
                Check.same("the last road", x.inn(left - 1, 1), left - 1);
            }
        }
    }

    @Says("Takes the last road up. Undoable.")
    static void promise09_takeUpIsUndone() {
        Check.undoes(Given::road, "takeUp()", x -> x.takeUp());
        Check.undoes(Given::delivered, "takeUp() of a road of a letter", x -> x.takeUp());
        Check.undoes(() -> roads(5), "takeUp() of five", x -> x.takeUp());
    }

    @Says("Throws `IllegalStateException` if there is no road,")
    static void promise09_takeUpOfNothing() {
        Check.state(Given::fresh, "takeUp()", x -> x.takeUp());
        Check.state(() -> laidFrom(Given.road()), "a second takeUp()", x -> x.takeUp());
        Check.same("takeUp() of one road", Given.road().takeUp(), 0);
    }

    private static NestedEnvelopes twoRoads() {
        NestedEnvelopes x = Given.road();
        x.lay(1, 2, 4, 3);
        return x;
    }

    private static NestedEnvelopes sentOn(int road, int ticks) {
        NestedEnvelopes x = twoRoads();
        x.send(road, 5);
        for (int tick = 0; tick < ticks; tick++) {
            x.pass(1);
        }
        return x;
    }

    private static NestedEnvelopes answeredOn(int road, int ticks) {
        NestedEnvelopes x = sentOn(road, 4);
        x.answer(road == 0 ? 2 : 3, 7);
        for (int tick = 0; tick < ticks; tick++) {
            x.pass(1);
        }
        return x;
    }

    @Says("or an envelope is on the last one")
    static void promise09_takeUpUnderAnEnvelope() {
        for (int tick = 0; tick < 4; tick++) {
            int ticks = tick;
            Check.state(() -> sentOn(1, ticks), "takeUp() under a letter of " + tick, x -> x.takeUp());
            Check.state(() -> answeredOn(1, ticks), "takeUp() under an answer of " + tick, x -> x.takeUp());
            Check.same("takeUp() beside a letter of " + tick, sentOn(0, tick).takeUp(), 1);
            Check.same("takeUp() beside an answer of " + tick, answeredOn(0, tick).takeUp(), 1);
        }
        Check.same("takeUp() after a letter", sentOn(1, 4).takeUp(), 1);
        Check.same("takeUp() after an answer", answeredOn(1, 4).takeUp(), 1);
        NestedEnvelopes x = sentOn(1, 0);
        x.setOpen(1, false);
        x.pass(1);
        Check.same("takeUp() after a loss", x.takeUp(), 1);
    }

    @Says("or an envelope is on the last one")
    static void promise09_takeUpUnderTheLastOfTwelve() {
        Check.same("takeUp() beside eleven", elevenAnd(0).takeUp(), 1);
        Check.state(() -> elevenAnd(1), "takeUp() under the twelfth", x -> x.takeUp());
    }

    private static NestedEnvelopes elevenAnd(int road) {
        NestedEnvelopes x = twoRoads();
        for (int letter = 0; letter < 11; letter++) {
            x.send(0, letter);
        }
        x.send(road, 5);
        return x;
    }

    // ---- what is asked of roads

    @Says({"Returns the number of roads."})
    static void promise10_roads() {
        NestedEnvelopes x = new NestedEnvelopes();
        Check.same("roads()", x.roads(), 0);
        for (int count = 1; count <= 6; count++) {
            x.lay(0, 1, 2, 0);
            Check.same("roads()", x.roads(), count);
        }
        x.takeUp();
        Check.same("roads() after takeUp()", x.roads(), 5);
        x.undo();
        Check.same("roads() after undo()", x.roads(), 6);
    }

    @Says({"Returns an inn of a road.", "Returns the number of the inn."})
    static void promise11_inn() {
        NestedEnvelopes x = Given.road();
        x.lay(7, 6, 1, 0);
        Check.same("inn(0, 1)", x.inn(0, 1), 3);
        Check.same("inn(0, 2)", x.inn(0, 2), 5);
        Check.same("inn(0, 3)", x.inn(0, 3), 0);
        Check.same("inn(1, 1)", x.inn(1, 1), 7);
        Check.same("inn(1, 2)", x.inn(1, 2), 6);
        Check.same("inn(1, 3)", x.inn(1, 3), 1);
        NestedEnvelopes six = Given.sixRoads();
        Check.same("inn(5, 1)", six.inn(5, 1), 5);
        Check.same("inn(5, 3)", six.inn(5, 3), 7);
    }

    @Says({ROAD, NO_SUCH_ROAD})
    static void promise11_innOfNoRoad() {
        Check.indexRange(Given::fresh, "inn(road, 1) without a road", 0, -1, (x, road) -> x.inn(road, 1));
        Check.indexRange(Given::busy, "inn(road, 1) of two roads", 0, 1, (x, road) -> x.inn(road, 1));
        Check.indexRange(Given::sixRoads, "inn(road, 3) of six roads", 0, 5, (x, road) -> x.inn(road, 3));
        Check.indexRange(() -> laidFrom(twoRoads()), "inn(road, 1) after takeUp()", 0, 0, (x, road) -> x.inn(road, 1));
    }

    @Says({"`place`: 1 to 3", "or place is out of range"})
    static void promise11_innAtNoPlace() {
        Check.indexRange(Given::road, "inn(0, place)", 1, 3, (x, place) -> x.inn(0, place));
        Check.indexRange(Given::sixRoads, "inn(0, place) of six", 1, 3, (x, place) -> x.inn(0, place));
        Check.indexRange(Given::sixRoads, "inn(5, place) of six", 1, 3, (x, place) -> x.inn(5, place));
        Check.index(Given::road, "inn(1, 4)", x -> x.inn(1, 4));
    }

    @Says({"Returns the hall of a road.", "Returns the number of the hall."})
    static void promise12_hall() {
        NestedEnvelopes x = Given.sixRoads();
        for (int road = 0; road < 6; road++) {
            Check.same("hall(" + road + ")", x.hall(road), road % 4);
        }
    }

    @Says({ROAD, NO_SUCH_ROAD})
    static void promise12_hallOfNoRoad() {
        Check.indexRange(Given::fresh, "hall() without a road", 0, -1, (x, road) -> x.hall(road));
        Check.indexRange(Given::busy, "hall() of two roads", 0, 1, (x, road) -> x.hall(road));
        Check.indexRange(Given::sixRoads, "hall() of six roads", 0, 5, (x, road) -> x.hall(road));
    }

    @Says({"Tells whether a road stands.", "Returns true if it stands."})
    static void promise13_stands() {
        for (int inn = 0; inn < 8; inn++) {
            NestedEnvelopes x = Given.road();
            Check.same("stands(0)", x.stands(0), true);
            x.setOpen(inn, false);
            Check.same("stands(0) without " + inn, x.stands(0), inn != 3 && inn != 5 && inn != 0);
            x.setOpen(inn, true);
            Check.same("stands(0) with " + inn + " again", x.stands(0), true);
        }
        NestedEnvelopes two = twoRoads();
        two.setOpen(4, false);
        Check.same("stands(0) of two", two.stands(0), true);
        Check.same("stands(1) of two", two.stands(1), false);
    }

    @Says("Tells whether a road stands.")
    static void promise13_standsOfEachRoad() {
        for (int closed = 0; closed < 8; closed++) {
            NestedEnvelopes x = Given.sixRoads();
            x.setOpen(closed, false);
            for (int road = 0; road < 6; road++) {
                boolean isBeside = closed < road || closed > road + 2;
                Check.same("stands(" + road + ") without " + closed, x.stands(road), isBeside);
            }
            NestedEnvelopes y = Given.fresh();
            y.lay(1, 2, 3, 0);
            y.lay(4, 5, 6, 0);
            y.setOpen(closed, false);
            Check.same("stands(0) of 1, 2, 3 without " + closed, y.stands(0), closed < 1 || closed > 3);
            Check.same("stands(1) of 4, 5, 6 without " + closed, y.stands(1), closed < 4 || closed > 6);
        }
    }

    @Says({ROAD, NO_SUCH_ROAD})
    static void promise13_standsOfNoRoad() {
        Check.indexRange(Given::fresh, "stands() without a road", 0, -1, (x, road) -> x.stands(road));
        Check.indexRange(Given::busy, "stands() of two roads", 0, 1, (x, road) -> x.stands(road));
        Check.indexRange(Given::sixRoads, "stands() of six roads", 0, 5, (x, road) -> x.stands(road));
    }

    // ---- what inns see

    @Says({"Returns what an inn sees of a road.", "`side`: 0 toward the traveller, 1 toward the hall",
        "Returns the number of the inn beside it, TRAVELLER, or 10 plus the number of the hall;"})
    static void promise14_see() {
        for (int hall = 0; hall < 4; hall++) {
            NestedEnvelopes x = new NestedEnvelopes();
            x.lay(7, 0, 4, hall);
            Check.same("see(7, 0, 0)", x.see(7, 0, 0), NestedEnvelopes.TRAVELLER);
            Check.same("see(7, 0, 1)", x.see(7, 0, 1), 0);
            Check.same("see(0, 0, 0)", x.see(0, 0, 0), 7);
            Check.same("see(0, 0, 1)", x.see(0, 0, 1), 4);
            Check.same("see(4, 0, 0)", x.see(4, 0, 0), 0);
            Check.same("see(4, 0, 1)", x.see(4, 0, 1), 10 + hall);
        }
        NestedEnvelopes x = twoRoads();
        x.setOpen(2, false);
        Check.same("see(1, 1, 1) when 2 is closed", x.see(1, 1, 1), 2);
        Check.same("see(2, 1, 0) when 2 is closed", x.see(2, 1, 0), 1);
    }

    @Says("NONE if the inn is not on the road.")
    static void promise14_seeBesideTheRoad() {
        NestedEnvelopes x = twoRoads();
        for (int inn = 0; inn < 8; inn++) {
            for (int side = 0; side < 2; side++) {
                boolean isOnFirst = inn == 3 || inn == 5 || inn == 0;
                boolean isOnSecond = inn == 1 || inn == 2 || inn == 4;
                Check.same(inn + " sees the road 0", x.see(inn, 0, side) != NestedEnvelopes.NONE, isOnFirst);
                Check.same(inn + " sees the road 1", x.see(inn, 1, side) != NestedEnvelopes.NONE, isOnSecond);
            }
        }
    }

    @Says({"`inn`: 0 to 7", "Throws `IndexOutOfBoundsException` if there is no such inn"})
    static void promise14_seeOfNoInn() {
        Check.indexRange(Given::busy, "see(inn, 0, 0)", 0, 7, (x, inn) -> x.see(inn, 0, 0));
        Check.indexRange(Given::busy, "see(inn, 1, 1)", 0, 7, (x, inn) -> x.see(inn, 1, 1));
    }

    @Says({ROAD, "or road,"})
    static void promise14_seeOfNoRoad() {
        Check.indexRange(Given::fresh, "see(0, road, 0) without a road", 0, -1, (x, road) -> x.see(0, road, 0));
        Check.indexRange(Given::busy, "see(0, road, 0) of two roads", 0, 1, (x, road) -> x.see(0, road, 0));
        Check.indexRange(Given::sixRoads, "see(7, road, 1) of six roads", 0, 5, (x, road) -> x.see(7, road, 1));
    }

    @Says("or side is neither 0 nor 1")
    static void promise14_seeToNoSide() {
        Check.indexRange(Given::busy, "see(3, 0, side)", 0, 1, (x, side) -> x.see(3, 0, side));
        Check.indexRange(Given::busy, "see(7, 0, side), not on the road", 0, 1, (x, side) -> x.see(7, 0, side));
    }

    @Says({"Returns the inns that an inn knows.",
        "Returns a bit mask: bit k is set if the inn k is seen by this inn on some road."})
    static void promise15_known() {
        NestedEnvelopes x = Given.road();
        int[] due = {1 << 5, 0, 0, 1 << 5, 0, 1 << 3 | 1, 0, 0};
        for (int inn = 0; inn < 8; inn++) {
            Check.same("known(" + inn + ")", x.known(inn), due[inn]);
        }
        x.lay(5, 7, 3, 0);
        Check.same("known(5) of two roads", x.known(5), 1 << 3 | 1 | 1 << 7);
        Check.same("known(3) of two roads", x.known(3), 1 << 5 | 1 << 7);
        Check.same("known(7) of two roads", x.known(7), 1 << 5 | 1 << 3);
        x.setOpen(7, false);
        Check.same("known(3) when 7 is closed", x.known(3), 1 << 5 | 1 << 7);
        x.takeUp();
        Check.same("known(7) when its road is taken up", x.known(7), 0);
        Check.same("known(3) when one road is taken up", x.known(3), 1 << 5);
    }

    @Says("Returns a bit mask: bit k is set if the inn k is seen by this inn on some road.")
    static void promise15_knownOfAll() {
        NestedEnvelopes x = new NestedEnvelopes();
        x.lay(1, 0, 2, 3);
        x.lay(3, 0, 4, 3);
        x.lay(5, 0, 6, 3);
        x.lay(7, 0, 1, 3);
        Check.same("known(0)", x.known(0), 0xfe);
        Check.same("known(1)", x.known(1), 1);
        Check.same("known(7)", x.known(7), 1);
        NestedEnvelopes y = new NestedEnvelopes();
        for (int road = 0; road < 5; road++) {
            y.lay(1, 2, 3, 0);
        }
        y.lay(4, 5, 0, 3);
        Check.same("known(0) of the sixth road", y.known(0), 1 << 5);
    }

    @Says({"`inn`: 0 to 7", "Throws `IndexOutOfBoundsException` if there is no such inn"})
    static void promise15_knownOfNoInn() {
        Check.indexRange(Given::busy, "known()", 0, 7, (x, inn) -> x.known(inn));
        Check.indexRange(Given::fresh, "known() without a road", 0, 7, (x, inn) -> x.known(inn));
    }
}
