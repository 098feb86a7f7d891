/** The document's Terms on envelopes: what becomes of them, tick by tick. */
final class EnvelopeTermsTest {

    private static final int[] INNS = {3, 5, 0};
    private static final int[] KEYS = {4444, 6666, 1111};

    private EnvelopeTermsTest() {
    }

    private static int covered(int body, int key) {
        return (7 * body + key) % 10000;
    }

    /** A road whose letter is at this place, or whose answer is when it goes back. */
    private static NestedEnvelopes at(int place, boolean goesBack) {
        NestedEnvelopes x = goesBack ? Given.answers(1) : Given.letters(1);
        int ticks = goesBack ? 4 - place : place;
        for (int tick = 0; tick < ticks; tick++) {
            x.pass(1);
        }
        return x;
    }

    // ---- their number and order

    @Says("There are at most 12 envelopes on the way,")
    static void terms_twelveEnvelopes() {
        Check.same("a twelfth send()", Given.letters(11).send(0, 5), 11);
        Check.state(Given::twelve, "a thirteenth send()", x -> x.send(0, 5));
        Check.same("a twelfth answer()", Given.answers(11).answer(2, 5), 11);
        Check.state(() -> Given.answers(12), "a thirteenth answer()", x -> x.answer(2, 5));
        Check.state(() -> Given.answers(12), "send() after twelve answers", x -> x.send(0, 5));
        NestedEnvelopes x = Given.twelve();
        x.pass(4);
        Check.same("send() when there are places again", x.send(0, 5), 0);
    }

    @Says("There are at most 12 envelopes on the way,")
    static void terms_twelveOfBothKinds() {
        NestedEnvelopes x = sixAndFive();
        Check.same("send() as the twelfth", x.send(0, 5), 11);
        Check.same("envelopes()", x.envelopes(), 12);
        Check.state(EnvelopeTermsTest::sixAndSix, "send() as the thirteenth", y -> y.send(0, 5));
        Check.state(EnvelopeTermsTest::sixAndSix, "answer() as the thirteenth", y -> y.answer(2, 5));
    }

    private static NestedEnvelopes sixAndFive() {
        NestedEnvelopes x = Given.answers(6);
        for (int letter = 0; letter < 5; letter++) {
            x.send(0, letter);
        }
        return x;
    }

    private static NestedEnvelopes sixAndSix() {
        NestedEnvelopes x = sixAndFive();
        x.send(0, 9);
        return x;
    }

    @Says("numbered from 0 in the order in which they were sent.")
    static void terms_envelopeNumbers() {
        NestedEnvelopes x = Given.delivered();
        Check.same("send(0, 1)", x.send(0, 1), 0);
        Check.same("answer(2, 6)", x.answer(2, 6), 1);
        Check.same("send(0, 2)", x.send(0, 2), 2);
        Check.same("answer(2, 7)", x.answer(2, 7), 3);
        int[] directions = {0, 1, 0, 1};
        for (int envelope = 0; envelope < 4; envelope++) {
            Check.same("envelope(" + envelope + ", 3)", x.envelope(envelope, 3), directions[envelope]);
        }
        Check.same("envelope(1, 2)", x.envelope(1, 2), 6);
        Check.same("envelope(3, 2)", x.envelope(3, 2), 7);
    }

    @Says({"An envelope is on a road, goes out (to the hall) or back (to the traveller), and has a body and a place:",
        "0 at the traveller, 1 to 3 at the first to the third inn of the road, 4 at the hall."})
    static void terms_places() {
        for (int place = 0; place < 4; place++) {
            NestedEnvelopes x = at(place, false);
            Check.same("the place on the way out", x.envelope(0, 1), place);
            Check.same("the direction on the way out", x.envelope(0, 3), 0);
            Check.same("the road on the way out", x.envelope(0, 0), 0);
        }
        for (int place = 4; place > 0; place--) {
            NestedEnvelopes x = at(place, true);
            Check.same("the place on the way back", x.envelope(0, 1), place);
            Check.same("the direction on the way back", x.envelope(0, 3), 1);
            Check.same("the road on the way back", x.envelope(0, 0), 0);
        }
    }

    // ---- letters and answers

    @Says("When a letter is sent, its body is covered with the key of the third inn, then with that of the second"
        + " one, and then with that of the first one;")
    static void terms_letterIsCovered() {
        for (int letter : new int[] {0, 1, 42, 9998, 9999}) {
            NestedEnvelopes x = Given.road();
            x.send(0, letter);
            int due = covered(covered(covered(letter, 1111), 6666), 4444);
            Check.same("the body of the letter " + letter, x.envelope(0, 2), due);
        }
    }

    @Says("When a letter is sent, its body is covered with the key of the third inn,")
    static void terms_letterIsCoveredOnEachRoad() {
        for (int road = 0; road < 6; road++) {
            NestedEnvelopes x = Given.sixRoads();
            x.send(road, 42);
            int due = covered(covered(covered(42, 1111 * (road + 3)), 1111 * (road + 2)), 1111 * (road + 1));
            Check.same("the body of a letter on " + road, x.envelope(0, 2), due);
        }
    }

    @Says("the envelope goes out, and its place is 0.")
    static void terms_letterBegins() {
        NestedEnvelopes x = Given.road();
        x.lay(1, 2, 4, 0);
        x.send(1, 0);
        Check.same("its road", x.envelope(0, 0), 1);
        Check.same("its place", x.envelope(0, 1), 0);
        Check.same("its direction", x.envelope(0, 3), 0);
    }

    @Says("A hall answers on the road on which its last letter came:")
    static void terms_answerRoad() {
        NestedEnvelopes x = Given.road();
        x.lay(1, 2, 4, 2);
        x.send(1, 5);
        x.send(0, 6);
        x.pass(4);
        x.answer(2, 1);
        Check.same("the later envelope of one tick", x.envelope(0, 0), 0);
        x.send(1, 7);
        x.pass(3);
        x.answer(2, 1);
        Check.same("a letter on the way does not count", x.envelope(2, 0), 0);
        x.pass(1);
        x.answer(2, 1);
        Check.same("a letter that has come counts", x.envelope(1, 0), 1);
        x.send(0, 8);
        x.setOpen(5, false);
        x.pass(4);
        x.answer(2, 1);
        Check.same("a letter that is lost does not count", x.envelope(0, 0), 1);
    }

    @Says("the body of the answer is the answer itself; the envelope goes back, and its place is 4.")
    static void terms_answerBegins() {
        for (int answer : new int[] {0, 1, 9999}) {
            NestedEnvelopes x = Given.delivered();
            x.answer(2, answer);
            Check.envelope(x, 0, 0, 4, answer, 1);
        }
    }

    private static NestedEnvelopes takenUp() {
        NestedEnvelopes x = Given.road();
        x.lay(1, 2, 4, 2);
        x.lay(1, 2, 6, 3);
        x.send(0, 5);
        x.pass(1);
        x.send(1, 6);
        x.send(2, 7);
        x.pass(4);
        x.takeUp();
        return x;
    }

    @Says("(When a road is taken up, halls whose last letter came on it cannot answer until they get another letter,")
    static void terms_noAnswerOnATakenUpRoad() {
        Check.state(EnvelopeTermsTest::takenUp, "answer(3, 0)", x -> x.answer(3, 0));
        Check.same("letter(3)", takenUp().letter(3), 7);
        Check.same("answer(2, 0), whose road is there", takenUp().answer(2, 0), 0);
        Check.state(() -> onItsWay(3), "answer(2, 0) while a letter is on its way", x -> x.answer(2, 0));
        NestedEnvelopes x = onItsWay(4);
        Check.same("answer(2, 0) after another letter", x.answer(2, 0), 0);
        Check.same("the road of the answer", x.envelope(0, 0), 0);
    }

    // The hall 2 has had a letter on the road 0 too, but its last one came on the road 1.
    private static NestedEnvelopes onItsWay(int ticks) {
        NestedEnvelopes x = takenUp();
        x.takeUp();
        x.send(0, 8);
        x.pass(ticks);
        return x;
    }

    @Says("also if a road is laid that has the same number.)")
    static void terms_noAnswerOnAnotherRoadOfTheNumber() {
        Check.state(EnvelopeTermsTest::laidAgain, "answer(3, 0)", x -> x.answer(3, 0));
        NestedEnvelopes x = laidAgain();
        x.send(2, 9);
        x.pass(4);
        Check.same("answer(3, 0) after another letter", x.answer(3, 0), 0);
        Check.same("the road of the answer", x.envelope(0, 0), 2);
    }

    @Says("halls whose last letter came on it cannot answer until they get another letter,")
    static void terms_noAnswerOfAnyHall() {
        for (int number = 0; number < 4; number++) {
            int hall = number;
            Check.state(() -> takenUpTo(hall), "answer(" + hall + ", 0)", x -> x.answer(hall, 0));
        }
    }

    private static NestedEnvelopes takenUpTo(int hall) {
        NestedEnvelopes x = Given.fresh();
        x.lay(1, 2, 4, (hall + 1) % 4);
        x.lay(1, 2, 4, hall);
        x.send(1, 5);
        x.pass(4);
        x.takeUp();
        return x;
    }

    private static NestedEnvelopes laidAgain() {
        NestedEnvelopes x = takenUp();
        x.lay(1, 2, 6, 3);
        return x;
    }

    @Says("also if a road is laid that has the same number.)")
    static void terms_aNumberThatServesAnotherHall() {
        Check.state(EnvelopeTermsTest::laidToAnotherHall, "answer(3, 0)", x -> x.answer(3, 0));
        NestedEnvelopes x = laidToAnotherHall();
        Check.same("answer(0, 0)", x.answer(0, 0), 0);
        Check.same("the road of the answer", x.envelope(0, 0), 2);
    }

    private static NestedEnvelopes laidToAnotherHall() {
        NestedEnvelopes x = takenUp();
        x.lay(1, 2, 6, 0);
        x.send(2, 9);
        x.pass(4);
        return x;
    }

    // ---- a tick

    @Says("In a tick, each envelope, in ascending order of the numbers,")
    static void terms_tickInAscendingOrder() {
        NestedEnvelopes x = Given.road();
        x.lay(1, 2, 4, 2);
        x.send(1, 10);
        x.send(0, 20);
        x.pass(4);
        Check.same("letter(2)", x.letter(2), 20);
        x.send(0, 30);
        x.send(1, 40);
        x.pass(4);
        Check.same("letter(2) of the other order", x.letter(2), 40);
        x.answer(2, 50);
        x.answer(2, 60);
        x.pass(4);
        Check.same("lastAnswer()", x.lastAnswer(), 60);
    }

    @Says("goes to the next place (1 more if it goes out, 1 less if it goes back):")
    static void terms_tickMovesByOne() {
        NestedEnvelopes x = Given.answers(1);
        x.send(0, 1);
        for (int tick = 1; tick < 4; tick++) {
            x.pass(1);
            Check.same("the place of the answer", x.envelope(0, 1), 4 - tick);
            Check.same("the place of the letter", x.envelope(1, 1), tick);
        }
        x.pass(1);
        Check.same("envelopes()", x.envelopes(), 0);
    }

    @Says("If this place is a closed inn, the envelope is lost.")
    static void terms_lostAtAClosedInn() {
        for (int place = 1; place <= 3; place++) {
            for (int from = 0; from <= 3; from++) {
                isLost(at(from, false), place, from < place, "out from " + from);
            }
            for (int from = 4; from >= 1; from--) {
                isLost(at(from, true), place, from > place, "back from " + from);
            }
        }
    }

    private static void isLost(NestedEnvelopes x, int closed, boolean due, String way) {
        x.setOpen(INNS[closed - 1], false);
        Check.same("pass(4) " + way + " when " + closed + " is closed", x.pass(4), due ? 0 : 1);
        Check.same("count(4) " + way + " when " + closed + " is closed", x.count(4), due ? 1 : 0);
        Check.same("envelopes() " + way + " when " + closed + " is closed", x.envelopes(), 0);
    }

    @Says("If this place is a closed inn, the envelope is lost.")
    static void terms_lostInTheTickThatReachesIt() {
        for (int place = 1; place <= 3; place++) {
            NestedEnvelopes x = Given.letters(1);
            x.setOpen(INNS[place - 1], false);
            for (int tick = 1; tick < place; tick++) {
                x.pass(1);
            }
            Check.same("envelopes() before the inn", x.envelopes(), 1);
            Check.same("pass(1) to the inn", x.pass(1), 0);
            Check.same("envelopes() at the inn", x.envelopes(), 0);
            Check.counts(x, 1, 0, 0, 0, 1);
        }
    }

    @Says("At an open inn, the body is uncovered with the key of this inn if it goes out,")
    static void terms_uncoveredOnTheWayOut() {
        for (int letter : new int[] {0, 42, 9999}) {
            int[] bodies = {covered(covered(letter, 1111), 6666), covered(letter, 1111), letter};
            NestedEnvelopes x = Given.road();
            x.send(0, letter);
            for (int place = 1; place <= 3; place++) {
                x.pass(1);
                Check.same("the body of " + letter + " at " + place, x.envelope(0, 2), bodies[place - 1]);
            }
        }
    }

    @Says("and covered with it if it goes back")
    static void terms_coveredOnTheWayBack() {
        for (int answer : new int[] {0, 42, 9999}) {
            NestedEnvelopes x = Given.delivered();
            x.answer(2, answer);
            int body = answer;
            for (int place = 3; place >= 1; place--) {
                x.pass(1);
                body = covered(body, KEYS[place - 1]);
                Check.same("the body of " + answer + " at " + place, x.envelope(0, 2), body);
            }
        }
    }

    @Says("and covered with it if it goes back")
    static void terms_coveredOnEachRoad() {
        for (int road = 2; road < 6; road++) {
            NestedEnvelopes x = Given.sixRoads();
            x.send(road, 42);
            x.pass(4);
            x.answer(road % 4, 9);
            x.pass(3);
            int due = covered(covered(covered(9, 1111 * (road + 3)), 1111 * (road + 2)), 1111 * (road + 1));
            Check.same("the body of an answer on " + road, x.envelope(0, 2), due);
        }
    }

    @Says("(always with the keys of the road).")
    static void terms_keysOfTheRoad() {
        NestedEnvelopes x = Given.letters(1);
        x.setKey(3, 1);
        x.setKey(5, 2);
        x.setKey(0, 3);
        x.pass(1);
        Check.same("the body at the first inn", x.envelope(0, 2), covered(covered(0, 1111), 6666));
        x.pass(3);
        Check.same("letter(2)", x.letter(2), 0);
        x.answer(2, 17);
        x.pass(1);
        Check.same("the body of the answer at the third inn", x.envelope(0, 2), covered(17, 1111));
        x.pass(3);
        Check.same("lastAnswer()", x.lastAnswer(), 17);
    }

    @Says("At the hall, the letter is delivered: the hall gets the body, and the envelope is no longer on the way.")
    static void terms_atTheHall() {
        NestedEnvelopes x = Given.road();
        x.send(0, 9999);
        x.pass(3);
        Check.same("letter(2) at the third inn", x.letter(2), -1);
        Check.same("pass(1)", x.pass(1), 1);
        for (int hall = 0; hall < 4; hall++) {
            Check.same("letter(" + hall + ")", x.letter(hall), hall == 2 ? 9999 : -1);
        }
        Check.same("envelopes()", x.envelopes(), 0);
        Check.counts(x, 1, 1, 0, 0, 0);
    }

    @Says({"At the traveller, the body is uncovered with the key of the first inn, then with that of the second one,"
        + " and then with that of the third one;",
        "the traveller gets this as the last answer, and the envelope is no longer on the way."})
    static void terms_atTheTraveller() {
        for (int answer : new int[] {0, 42, 9999}) {
            NestedEnvelopes x = Given.delivered();
            x.answer(2, answer);
            x.pass(3);
            Check.same("lastAnswer() at the first inn", x.lastAnswer(), -1);
            Check.same("pass(1)", x.pass(1), 1);
            Check.same("lastAnswer()", x.lastAnswer(), answer);
            Check.same("envelopes()", x.envelopes(), 0);
            Check.counts(x, 1, 1, 1, 1, 0);
        }
    }

    @Says("Envelopes that are no longer on the way are taken out after all have moved;")
    static void terms_takenOutAfterAllHaveMoved() {
        NestedEnvelopes x = Given.delivered();
        x.send(0, 1);
        x.pass(1);
        x.send(0, 2);
        x.pass(2);
        x.answer(2, 3);
        Check.same("pass(1), of which the first arrives", x.pass(1), 1);
        Check.envelope(x, 0, 0, 3, 2, 0);
        Check.envelope(x, 1, 0, 3, covered(3, 1111), 1);
        Check.same("envelopes()", x.envelopes(), 2);
        Check.same("pass(1), of which the first arrives again", x.pass(1), 1);
        Check.envelope(x, 0, 0, 2, covered(covered(3, 1111), 6666), 1);
    }

    @Says("the others keep their order.")
    static void terms_othersKeepTheirOrder() {
        NestedEnvelopes x = Given.road();
        x.lay(1, 2, 4, 2);
        for (int letter = 0; letter < 12; letter++) {
            x.send(letter % 2, letter);
        }
        x.setOpen(1, false);
        x.pass(1);
        Check.same("envelopes()", x.envelopes(), 6);
        x.pass(2);
        for (int envelope = 0; envelope < 6; envelope++) {
            Check.envelope(x, envelope, 0, 3, 2 * envelope, 0);
        }
    }

    // The hall 2 answers on the road 1, whose third inn is then closed; letters go out on both roads.
    private static NestedEnvelopes onTwoRoads() {
        NestedEnvelopes x = Given.road();
        x.lay(1, 2, 4, 2);
        x.send(1, 5);
        x.pass(4);
        x.setOpen(4, false);
        return x;
    }

    @Says("the others keep their order.")
    static void terms_othersKeepTheirNumbers() {
        NestedEnvelopes x = onTwoRoads();
        x.send(1, 10);
        x.answer(2, 6);
        x.send(0, 20);
        x.answer(2, 7);
        x.send(1, 30);
        x.send(0, 40);
        x.pass(1);
        Check.same("envelopes()", x.envelopes(), 4);
        Check.envelope(x, 0, 1, 1, covered(covered(10, 5555), 3333), 0);
        Check.envelope(x, 1, 0, 1, covered(covered(20, 1111), 6666), 0);
        Check.envelope(x, 2, 1, 1, covered(covered(30, 5555), 3333), 0);
        Check.envelope(x, 3, 0, 1, covered(covered(40, 1111), 6666), 0);
        NestedEnvelopes y = onTwoRoads();
        y.send(0, 20);
        y.pass(4);
        y.answer(2, 6);
        y.setOpen(1, false);
        y.send(1, 10);
        y.answer(2, 7);
        y.pass(1);
        Check.same("envelopes() that go back", y.envelopes(), 2);
        Check.envelope(y, 0, 0, 3, covered(6, 1111), 1);
        Check.envelope(y, 1, 0, 3, covered(7, 1111), 1);
    }
}
