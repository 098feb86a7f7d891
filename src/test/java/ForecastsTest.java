/** Promises 25 to 27: the forecasts. */
final class ForecastsTest {

    private static final int[] INNS = {3, 5, 0};

    private ForecastsTest() {
    }

    @Says("Ahead of the calls `lostIfClosed`, `ticksTo`, `leastWork` the interface says:"
        + " ---- forecasts; they change nothing.")
    static void terms_forecastsChangeNothing() {
        for (int number = 0; number < 8; number++) {
            int inn = number;
            Check.changesNothing(Given::busy, "lostIfClosed(" + inn + ")", x -> x.lostIfClosed(inn));
        }
        for (int number = 0; number < 12; number++) {
            int envelope = number;
            Check.changesNothing(Given::twelve, "ticksTo(" + envelope + ")", x -> x.ticksTo(envelope));
        }
        for (int number = 1; number <= 3; number++) {
            int place = number;
            Check.changesNothing(Given::busy, "leastWork(" + place + ")", x -> x.leastWork(place));
        }
    }

    private static NestedEnvelopes outAt(int place) {
        NestedEnvelopes x = Given.letters(1);
        for (int tick = 0; tick < place; tick++) {
            x.pass(1);
        }
        return x;
    }

    private static NestedEnvelopes backAt(int place) {
        NestedEnvelopes x = Given.answers(1);
        for (int tick = 4; tick > place; tick--) {
            x.pass(1);
        }
        return x;
    }

    private static NestedEnvelopes closing(NestedEnvelopes x, int... inns) {
        for (int inn : inns) {
            x.setOpen(inn, false);
        }
        return x;
    }

    // ---- lostIfClosed

    @Says("Predicts how many envelopes that are on the way now would be lost if an inn was closed now,")
    static void promise25_lostOnTheWayOut() {
        for (int from = 0; from <= 3; from++) {
            for (int place = 1; place <= 3; place++) {
                String name = "lostIfClosed() of " + place + " out from " + from;
                Check.same(name, outAt(from).lostIfClosed(INNS[place - 1]), place > from ? 1 : 0);
            }
        }
    }

    @Says("Predicts how many envelopes that are on the way now would be lost if an inn was closed now,")
    static void promise25_lostOnTheWayBack() {
        for (int from = 4; from >= 1; from--) {
            for (int place = 1; place <= 3; place++) {
                String name = "lostIfClosed() of " + place + " back from " + from;
                Check.same(name, backAt(from).lostIfClosed(INNS[place - 1]), place < from ? 1 : 0);
            }
        }
    }

    @Says("and no inn was opened or closed later.")
    static void promise25_lostAsPassWouldTell() {
        for (int inn = 0; inn < 8; inn++) {
            for (int other = 0; other < 8; other++) {
                int due = closing(Given.busy(), inn, other).lostIfClosed(inn);
                NestedEnvelopes x = closing(Given.busy(), other);
                Check.same("lostIfClosed(" + inn + ") without " + other, x.lostIfClosed(inn), due);
                NestedEnvelopes y = closing(Given.busy(), inn, other);
                int before = y.count(4);
                y.pass(9);
                Check.same("count(4) without " + inn + " and " + other, y.count(4) - before, due);
            }
        }
    }

    @Says("Returns the number of envelopes on the way that would be lost, for whatever inn on their way.")
    static void promise25_lostForWhateverInn() {
        NestedEnvelopes x = new NestedEnvelopes();
        x.lay(0, 1, 2, 0);
        x.lay(2, 1, 0, 1);
        x.send(0, 1);
        x.send(1, 2);
        x.pass(1);
        x.send(0, 3);
        Check.same("lostIfClosed(1)", x.lostIfClosed(1), 3);
        Check.same("lostIfClosed(0), past for one", x.lostIfClosed(0), 2);
        Check.same("lostIfClosed(2), past for one", x.lostIfClosed(2), 2);
        Check.same("lostIfClosed(7)", x.lostIfClosed(7), 0);
        x.setOpen(0, false);
        Check.same("lostIfClosed(7) when 0 is closed", x.lostIfClosed(7), 2);
        Check.same("lostIfClosed(0) when 0 is closed", x.lostIfClosed(0), 2);
        Check.same("lostIfClosed(2) when 0 is closed", x.lostIfClosed(2), 3);
        Check.same("isOpen(2)", x.isOpen(2), true);
    }

    @Says("Returns the number of envelopes on the way that would be lost, for whatever inn on their way.")
    static void promise25_lostOfNoneAndOfTwelve() {
        for (int inn = 0; inn < 8; inn++) {
            boolean isOnTheRoad = inn == 3 || inn == 5 || inn == 0;
            Check.same("lostIfClosed(" + inn + ") of none", Given.delivered().lostIfClosed(inn), 0);
            Check.same("lostIfClosed(" + inn + ") of twelve", Given.twelve().lostIfClosed(inn), isOnTheRoad ? 12 : 0);
        }
        NestedEnvelopes lost = closing(Given.letters(5), 3);
        lost.pass(1);
        Check.same("lostIfClosed(3) after the loss", lost.lostIfClosed(3), 0);
    }

    @Says({"`inn`: 0 to 7", "Throws `IndexOutOfBoundsException` if there is no such inn"})
    static void promise25_lostIfNoInnIsClosed() {
        Check.indexRange(Given::busy, "lostIfClosed()", 0, 7, (x, inn) -> x.lostIfClosed(inn));
        Check.indexRange(Given::fresh, "lostIfClosed() of none", 0, 7, (x, inn) -> x.lostIfClosed(inn));
    }

    // ---- ticksTo

    @Says({"Predicts when an envelope arrives.",
        "Returns the number of ticks after which it arrives, if no inn opens or closes;"})
    static void promise26_ticksTo() {
        for (int place = 0; place <= 3; place++) {
            Check.same("ticksTo(0) out from " + place, outAt(place).ticksTo(0), 4 - place);
            Check.same("ticksTo(0) back from " + (place + 1), backAt(place + 1).ticksTo(0), place + 1);
        }
        NestedEnvelopes x = outAt(1);
        x.send(0, 9);
        Check.same("ticksTo(0) of two", x.ticksTo(0), 3);
        Check.same("ticksTo(1) of two", x.ticksTo(1), 4);
        Check.same("pass() of as many", x.pass(3), 1);
    }

    @Says("NONE if it will be lost.")
    static void promise26_ticksToOfTheLost() {
        for (int place = 1; place <= 3; place++) {
            int inn = INNS[place - 1];
            for (int from = 0; from <= 3; from++) {
                int due = place > from ? NestedEnvelopes.NONE : 4 - from;
                Check.same("ticksTo(0) out from " + from + " without " + place,
                        closing(outAt(from), inn).ticksTo(0), due);
            }
            for (int from = 4; from >= 1; from--) {
                int due = place < from ? NestedEnvelopes.NONE : from;
                Check.same("ticksTo(0) back from " + from + " without " + place,
                        closing(backAt(from), inn).ticksTo(0), due);
            }
        }
        Check.same("ticksTo(0) without other inns", closing(outAt(0), 1, 2, 4, 6, 7).ticksTo(0), 4);
        NestedEnvelopes x = closing(outAt(0), 0);
        x.setOpen(0, true);
        Check.same("ticksTo(0) when the inn is open again", x.ticksTo(0), 4);
    }

    @Says({"`envelope`: its number", "Throws `IndexOutOfBoundsException` if there is no such envelope"})
    static void promise26_ticksToOfNone() {
        Check.indexRange(Given::fresh, "ticksTo() without a road", 0, -1, (x, envelope) -> x.ticksTo(envelope));
        Check.indexRange(Given::delivered, "ticksTo() of none", 0, -1, (x, envelope) -> x.ticksTo(envelope));
        Check.indexRange(() -> Given.letters(2), "ticksTo() of two", 0, 1, (x, envelope) -> x.ticksTo(envelope));
        Check.indexRange(Given::twelve, "ticksTo() of twelve", 0, 11, (x, envelope) -> x.ticksTo(envelope));
    }

    // ---- leastWork

    private static void leastWork(String name, NestedEnvelopes x, int... due) {
        for (int place = 1; place <= 3; place++) {
            Check.same("leastWork(" + place + ") " + name, x.leastWork(place), due[place - 1]);
        }
    }

    private static NestedEnvelopes withWork() {
        NestedEnvelopes x = new NestedEnvelopes();
        x.lay(0, 1, 2, 0);
        x.lay(2, 1, 0, 1);
        x.lay(3, 4, 5, 0);
        x.lay(6, 4, 2, 0);
        return x;
    }

    @Says({"Finds the three inns with the least work.", "Returns among the open inns, in ascending order of the number"
        + " of roads on which they are, and of their numbers among those with the same number of roads,"
        + " the one at this place (counted from 1);"})
    static void promise27_leastWork() {
        leastWork("without roads", Given.fresh(), 0, 1, 2);
        leastWork("of 7, then 3, 5, 6", withWork(), 7, 3, 5);
        leastWork("without 7", closing(withWork(), 7), 3, 5, 6);
        leastWork("without 5 and 7", closing(withWork(), 7, 5), 3, 6, 0);
        leastWork("without 3, 5 and 7", closing(withWork(), 7, 5, 3), 6, 0, 1);
        leastWork("of one road", Given.road(), 1, 2, 4);
        leastWork("of six roads", Given.sixRoads(), 0, 7, 1);
        NestedEnvelopes x = Given.sixRoads();
        x.takeUp();
        leastWork("after takeUp()", x, 7, 0, 6);
    }

    @Says("in ascending order of the number of roads on which they are,")
    static void promise27_leastWorkOfEachNumberOfRoads() {
        int[][] due = {{1, 0, 3}, {1, 3, 0}, {1, 3, 0}, {1, 3, 0}, {3, 1, 0}, {3, 1, 0}, {3, 0, 1}};
        for (int roads = 0; roads <= 6; roads++) {
            NestedEnvelopes x = Given.fresh();
            for (int road = 0; road < 6; road++) {
                x.lay(0, road < roads ? 1 : 3, 2, 0);
            }
            NestedEnvelopes left = closing(x, 2, 4, 5, 6, 7);
            leastWork("when 1 is on " + roads, left, due[roads]);
        }
    }

    @Says("NONE if there are not so many.")
    static void promise27_leastWorkOfFew() {
        leastWork("of three", closing(Given.road(), 1, 2, 4, 6, 7), 0, 3, 5);
        leastWork("of two", closing(Given.road(), 1, 2, 4, 6, 7, 0), 3, 5, -1);
        leastWork("of one", closing(Given.road(), 1, 2, 4, 6, 7, 0, 3), 5, -1, -1);
        leastWork("of none", closing(Given.road(), 1, 2, 4, 6, 7, 0, 3, 5), -1, -1, -1);
        leastWork("of the last without roads", closing(Given.fresh(), 0, 1, 2, 3, 4, 5, 6), 7, -1, -1);
    }

    @Says({"`place`: 1 to 3", "Throws `IndexOutOfBoundsException` if place is out of range"})
    static void promise27_leastWorkAtNoPlace() {
        Check.indexRange(Given::busy, "leastWork()", 1, 3, (x, place) -> x.leastWork(place));
        Check.indexRange(Given::fresh, "leastWork() without roads", 1, 3, (x, place) -> x.leastWork(place));
    }
}
