/** Promises 16 to 24: letters, answers and what is asked of them. */
final class EnvelopesTest {

    private static final String BODY_RANGE = "Throws `IllegalArgumentException` if body is out of range";
    private static final String NO_SUCH_HALL = "Throws `IndexOutOfBoundsException` if there is no such hall";

    private EnvelopesTest() {
    }

    // ---- send

    @Says({"Sends a letter.", "Returns the number of the envelope."})
    static void promise16_send() {
        NestedEnvelopes x = Given.road();
        for (int letter = 0; letter < 12; letter++) {
            Check.same("send(0, 42)", x.send(0, 42), letter);
            Check.envelope(x, letter, 0, 0, 9951, 0);
            Check.counts(x, letter + 1, 0, 0, 0, 0);
        }
        Check.same("envelopes()", x.envelopes(), 12);
    }

    @Says({"`road`: the number of a road", "`body`: 0 to 9999, the letter"})
    static void promise16_sendOnEachRoad() {
        for (int road = 0; road < 6; road++) {
            NestedEnvelopes x = Given.sixRoads();
            x.send(road, 9999);
            Check.same("its road", x.envelope(0, 0), road);
            x.pass(4);
            Check.same("the letter of its hall", x.letter(road % 4), 9999);
        }
    }

    @Says("Sends a letter.")
    static void promise16_sendOnARoadThatDoesNotStand() {
        NestedEnvelopes x = Given.road();
        x.setOpen(3, false);
        x.setOpen(5, false);
        x.setOpen(0, false);
        Check.same("send(0, 1)", x.send(0, 1), 0);
        Check.counts(x, 1, 0, 0, 0, 0);
        x.setOpen(3, true);
        x.setOpen(5, true);
        x.setOpen(0, true);
        Check.same("pass(4) when the inns are open again", x.pass(4), 1);
    }

    @Says("Sends a letter. Undoable.")
    static void promise16_sendIsUndone() {
        Check.undoes(Given::road, "send(0, 42)", x -> x.send(0, 42));
        Check.undoes(Given::delivered, "send(0, 42) after another", x -> x.send(0, 42));
    }

    @Says({"Throws `IndexOutOfBoundsException` if there is no such road"})
    static void promise16_sendOnNoRoad() {
        Check.indexRange(Given::fresh, "send(road, 0) without a road", 0, -1, (x, road) -> x.send(road, 0));
        Check.indexRange(Given::busy, "send(road, 0) of two roads", 0, 1, (x, road) -> x.send(road, 0));
        Check.indexRange(Given::sixRoads, "send(road, 0) of six roads", 0, 5, (x, road) -> x.send(road, 0));
        Check.index(Given::twelve, "a thirteenth send(1, 10000)", x -> x.send(1, 10000));
        Check.index(Given::twelve, "a thirteenth send(1, 0)", x -> x.send(1, 0));
        Check.index(Given::road, "send(-1, -1)", x -> x.send(-1, -1));
    }

    @Says({"`body`: 0 to 9999", BODY_RANGE})
    static void promise16_sendOutOfRange() {
        Check.argumentRange(Given::busy, "send(1, body)", 0, 9999, (x, body) -> x.send(1, body));
        Check.argument(Given::twelve, "a thirteenth send(0, 10000)", x -> x.send(0, 10000));
        Check.argument(Given::twelve, "a thirteenth send(0, -1)", x -> x.send(0, -1));
    }

    @Says("Throws `IllegalStateException` if 12 envelopes are on the way")
    static void promise16_sendWhenThereAreTwelve() {
        Check.same("send() when there are eleven", Given.letters(11).send(0, 0), 11);
        Check.state(Given::twelve, "send() when there are twelve", x -> x.send(0, 0));
        Check.state(() -> Given.answers(12), "send() when there are twelve answers", x -> x.send(0, 0));
    }

    // ---- answer

    @Says({"A hall answers.", "Returns the number of the envelope."})
    static void promise17_answer() {
        NestedEnvelopes x = Given.delivered();
        for (int answer = 0; answer < 12; answer++) {
            Check.same("answer(2, 9999)", x.answer(2, 9999), answer);
            Check.envelope(x, answer, 0, 4, 9999, 1);
            Check.counts(x, 1, 1, answer + 1, 0, 0);
        }
        Check.same("envelopes()", x.envelopes(), 12);
    }

    @Says({"`hall`: 0 to 3", "`body`: 0 to 9999, the answer"})
    static void promise17_answerOfEachHall() {
        for (int hall = 0; hall < 4; hall++) {
            NestedEnvelopes x = Given.sixRoads();
            int road = hall < 2 ? hall + 4 : hall;
            x.send(road, 5);
            x.pass(4);
            x.answer(hall, 9999);
            Check.envelope(x, 0, road, 4, 9999, 1);
            x.pass(4);
            Check.same("lastAnswer() of " + hall, x.lastAnswer(), 9999);
        }
    }

    @Says("A hall answers.")
    static void promise17_answerOnARoadThatDoesNotStand() {
        NestedEnvelopes x = Given.delivered();
        x.setOpen(0, false);
        Check.same("answer(2, 1)", x.answer(2, 1), 0);
        Check.same("pass(1)", x.pass(1), 0);
        Check.counts(x, 1, 1, 1, 0, 1);
    }

    @Says("A hall answers. Undoable.")
    static void promise17_answerIsUndone() {
        Check.undoes(Given::delivered, "answer(2, 5)", x -> x.answer(2, 5));
        Check.undoes(() -> Given.answers(2), "a third answer(2, 5)", x -> x.answer(2, 5));
    }

    private static NestedEnvelopes allHallsHaveLetters() {
        NestedEnvelopes x = Given.sixRoads();
        for (int road = 0; road < 6; road++) {
            x.send(road, road);
        }
        x.pass(4);
        return x;
    }

    @Says({"`hall`: 0 to 3", NO_SUCH_HALL})
    static void promise17_answerOfNoHall() {
        Check.indexRange(EnvelopesTest::allHallsHaveLetters, "answer(hall, 0)", 0, 3, (x, hall) -> x.answer(hall, 0));
        Check.index(Given::twelve, "answer(4, 10000)", x -> x.answer(4, 10000));
        Check.index(Given::twelve, "answer(-1, -1)", x -> x.answer(-1, -1));
        Check.index(() -> Given.answers(12), "a thirteenth answer(4, 0)", x -> x.answer(4, 0));
    }

    @Says({"`body`: 0 to 9999", BODY_RANGE})
    static void promise17_answerOutOfRange() {
        Check.argumentRange(Given::busy, "answer(2, body)", 0, 9999, (x, body) -> x.answer(2, body));
        Check.argument(Given::road, "answer(2, 10000) without a letter", x -> x.answer(2, 10000));
        Check.argument(() -> Given.answers(12), "a thirteenth answer(2, -1)", x -> x.answer(2, -1));
    }

    @Says("Throws `IllegalStateException` if the hall has not got a letter,")
    static void promise17_answerWithoutALetter() {
        Check.state(Given::fresh, "answer(2, 0) without a road", x -> x.answer(2, 0));
        Check.state(Given::road, "answer(2, 0) without a letter", x -> x.answer(2, 0));
        Check.state(() -> passed(Given.letters(1), 3), "answer(2, 0) before the letter", x -> x.answer(2, 0));
        Check.same("answer(2, 0) with the letter", passed(Given.letters(1), 4).answer(2, 0), 0);
        Check.state(EnvelopesTest::lostLetter, "answer(2, 0) when the letter is lost", x -> x.answer(2, 0));
        for (int hall : new int[] {0, 1, 3}) {
            Check.state(Given::delivered, "answer(" + hall + ", 0) of another hall", x -> x.answer(hall, 0));
        }
    }

    private static NestedEnvelopes passed(NestedEnvelopes x, int ticks) {
        x.pass(ticks);
        return x;
    }

    private static NestedEnvelopes lostLetter() {
        NestedEnvelopes x = Given.letters(1);
        x.setOpen(0, false);
        x.pass(4);
        return x;
    }

    private static NestedEnvelopes takenUp() {
        NestedEnvelopes x = Given.delivered();
        x.takeUp();
        return x;
    }

    @Says("or the road of the last one is taken up,")
    static void promise17_answerAfterTakeUp() {
        Check.state(EnvelopesTest::takenUp, "answer(2, 0) after takeUp()", x -> x.answer(2, 0));
        Check.state(() -> laid(takenUp()), "answer(2, 0) after takeUp() and lay()", x -> x.answer(2, 0));
        NestedEnvelopes x = laid(Given.delivered());
        x.takeUp();
        Check.same("answer(2, 0) when another road is taken up", x.answer(2, 0), 0);
        NestedEnvelopes y = takenUp();
        y.undo();
        Check.same("answer(2, 0) after takeUp() and undo()", y.answer(2, 0), 0);
        NestedEnvelopes z = laid(takenUp());
        z.send(0, 7);
        z.pass(4);
        Check.same("answer(2, 0) after another letter", z.answer(2, 0), 0);
    }

    private static NestedEnvelopes laid(NestedEnvelopes x) {
        x.lay(3, 5, 0, 2);
        return x;
    }

    @Says("or 12 envelopes are on the way")
    static void promise17_answerWhenThereAreTwelve() {
        Check.same("answer() when there are eleven", Given.answers(11).answer(2, 0), 11);
        Check.state(() -> Given.answers(12), "answer() when there are twelve", x -> x.answer(2, 0));
        Check.same("answer() after eleven letters", deliveredAndLetters(11).answer(2, 0), 11);
        Check.state(() -> deliveredAndLetters(12), "answer() after twelve letters", x -> x.answer(2, 0));
    }

    private static NestedEnvelopes deliveredAndLetters(int count) {
        NestedEnvelopes x = Given.delivered();
        for (int letter = 0; letter < count; letter++) {
            x.send(0, letter);
        }
        return x;
    }

    // ---- pass

    @Says({"Lets ticks pass.", "`ticks`: 1 to 9"})
    static void promise18_pass() {
        for (int ticks = 1; ticks <= 9; ticks++) {
            NestedEnvelopes x = deliveredAndLetters(2);
            x.answer(2, 9);
            NestedEnvelopes y = deliveredAndLetters(2);
            y.answer(2, 9);
            x.pass(ticks);
            for (int tick = 0; tick < ticks; tick++) {
                y.pass(1);
            }
            Check.same("digest() after pass(" + ticks + ")", x.digest(), y.digest());
            Check.same("envelopes() after pass(" + ticks + ")", x.envelopes(), ticks < 4 ? 3 : 0);
        }
    }

    @Says("Returns the number of letters and answers that arrive in them.")
    static void promise18_passReturnsArrivals() {
        NestedEnvelopes x = Given.road();
        Check.same("pass(9) of nothing", x.pass(9), 0);
        Check.same("pass(3) of twelve", Given.twelve().pass(3), 0);
        Check.same("pass(4) of twelve", Given.twelve().pass(4), 12);
        Check.same("pass(9) of twelve", Given.twelve().pass(9), 12);
        Check.same("pass(3) of twelve answers", Given.answers(12).pass(3), 0);
        Check.same("pass(4) of twelve answers", Given.answers(12).pass(4), 12);
        NestedEnvelopes y = Given.answers(3);
        y.pass(1);
        y.send(0, 1);
        y.send(0, 2);
        Check.same("pass(3) of three answers", y.pass(3), 3);
        Check.same("pass(1) of two letters", y.pass(1), 2);
        NestedEnvelopes z = Given.answers(3);
        z.pass(1);
        z.send(0, 1);
        Check.same("pass(4) of letters and answers", z.pass(4), 4);
        Check.same("pass(4) when all have arrived", z.pass(4), 0);
    }

    @Says("Returns the number of letters and answers that arrive in them.")
    static void promise18_passLeavesOutTheLost() {
        NestedEnvelopes x = Given.answers(2);
        x.lay(1, 2, 4, 3);
        x.send(1, 5);
        x.send(0, 5);
        x.send(0, 5);
        x.setOpen(5, false);
        Check.same("pass(9)", x.pass(9), 1);
        Check.counts(x, 4, 2, 2, 0, 4);
    }

    @Says("Lets ticks pass. Undoable.")
    static void promise18_passIsUndone() {
        Check.undoes(Given::fresh, "pass(9) of nothing", x -> x.pass(9));
        Check.undoes(Given::delivered, "pass(1) of nothing", x -> x.pass(1));
        Check.undoes(() -> Given.letters(3), "pass(1)", x -> x.pass(1));
        Check.undoes(() -> Given.letters(3), "pass(4)", x -> x.pass(4));
        Check.undoes(() -> Given.answers(2), "pass(9) of answers", x -> x.pass(9));
    }

    @Says({"`ticks`: 1 to 9", "Throws `IllegalArgumentException` if ticks is out of range"})
    static void promise18_passOutOfRange() {
        Check.argumentRange(Given::busy, "pass()", 1, 9, (x, ticks) -> x.pass(ticks));
        Check.argumentRange(Given::fresh, "pass() of nothing", 1, 9, (x, ticks) -> x.pass(ticks));
    }

    // ---- what is asked of envelopes

    @Says("Returns the number of envelopes on the way.")
    static void promise19_envelopes() {
        for (int count = 0; count <= 12; count++) {
            Check.same("envelopes() of letters", Given.letters(count).envelopes(), count);
            Check.same("envelopes() of answers", Given.answers(count).envelopes(), count);
        }
        NestedEnvelopes x = Given.letters(2);
        x.pass(3);
        Check.same("envelopes() at the third inn", x.envelopes(), 2);
        x.pass(1);
        Check.same("envelopes() after the hall", x.envelopes(), 0);
        Check.same("envelopes() after a loss", lostLetter().envelopes(), 0);
    }

    @Says({"Returns a number of an envelope.", "Returns the number.",
        "`what`: 0 its road, 1 its place, 2 its body, 3 its direction (0 out, 1 back)"})
    static void promise20_envelope() {
        NestedEnvelopes x = Given.delivered();
        x.lay(0, 1, 2, 3);
        x.send(1, 0);
        x.answer(2, 9999);
        x.pass(1);
        Check.envelope(x, 0, 1, 1, (7 * 3333 + 2222) % 10000, 0);
        Check.envelope(x, 1, 0, 3, (7 * 9999 + 1111) % 10000, 1);
        x.pass(1);
        Check.envelope(x, 0, 1, 2, 3333, 0);
        Check.envelope(x, 1, 0, 2, (7 * ((7 * 9999 + 1111) % 10000) + 6666) % 10000, 1);
    }

    @Says({"`envelope`: its number", "Throws `IndexOutOfBoundsException` if there is no such envelope,"})
    static void promise20_envelopeOfNone() {
        Check.indexRange(Given::road, "envelope(e, 0) of none", 0, -1, (x, envelope) -> x.envelope(envelope, 0));
        Check.indexRange(() -> Given.letters(1), "envelope(e, 3) of one", 0, 0, (x, e) -> x.envelope(e, 3));
        Check.indexRange(Given::busy, "envelope(e, 0) of two", 0, 1, (x, envelope) -> x.envelope(envelope, 0));
        Check.indexRange(Given::twelve, "envelope(e, 2) of twelve", 0, 11, (x, e) -> x.envelope(e, 2));
        Check.indexRange(Given::delivered, "envelope(e, 0) after it", 0, -1, (x, e) -> x.envelope(e, 0));
    }

    @Says("or what is out of range")
    static void promise20_envelopeAskedOutOfRange() {
        Check.indexRange(Given::busy, "envelope(0, what)", 0, 3, (x, what) -> x.envelope(0, what));
        Check.indexRange(Given::twelve, "envelope(0, what) of twelve", 0, 3, (x, what) -> x.envelope(0, what));
        Check.indexRange(Given::twelve, "envelope(11, what)", 0, 3, (x, what) -> x.envelope(11, what));
        Check.index(Given::busy, "envelope(2, 4)", x -> x.envelope(2, 4));
    }

    @Says({"Returns the last letter that a hall got.", "Returns the letter;"})
    static void promise21_letter() {
        NestedEnvelopes x = Given.road();
        for (int letter : new int[] {0, 9999, 8, 0}) {
            x.send(0, letter);
            x.pass(4);
            Check.same("letter(2)", x.letter(2), letter);
        }
        x.send(0, 5);
        x.pass(3);
        Check.same("letter(2) before the next", x.letter(2), 0);
        x.answer(2, 9);
        Check.same("letter(2) after an answer", x.letter(2), 0);
        x.pass(1);
        x.pass(4);
        x.takeUp();
        Check.same("letter(2) after takeUp()", x.letter(2), 5);
        NestedEnvelopes all = allHallsHaveLetters();
        int[] due = {4, 5, 2, 3};
        for (int hall = 0; hall < 4; hall++) {
            Check.same("letter(" + hall + ")", all.letter(hall), due[hall]);
        }
    }

    @Says("NONE if it has not got any.")
    static void promise21_letterOfNone() {
        NestedEnvelopes x = Given.delivered();
        Check.same("letter(0)", x.letter(0), NestedEnvelopes.NONE);
        Check.same("letter(1)", x.letter(1), NestedEnvelopes.NONE);
        Check.same("letter(2)", x.letter(2), 42);
        Check.same("letter(3)", x.letter(3), NestedEnvelopes.NONE);
        Check.same("letter(2) before it", passed(Given.letters(1), 3).letter(2), NestedEnvelopes.NONE);
        Check.same("letter(2) when it is lost", lostLetter().letter(2), NestedEnvelopes.NONE);
    }

    @Says({"`hall`: 0 to 3", NO_SUCH_HALL})
    static void promise21_letterOfNoHall() {
        Check.indexRange(Given::fresh, "letter()", 0, 3, (x, hall) -> x.letter(hall));
        Check.indexRange(EnvelopesTest::allHallsHaveLetters, "letter() of all", 0, 3, (x, hall) -> x.letter(hall));
    }

    @Says("Returns the last answer that the traveller got;")
    static void promise22_lastAnswer() {
        NestedEnvelopes x = Given.delivered();
        for (int answer : new int[] {0, 9999, 77, 0}) {
            x.answer(2, answer);
            x.pass(4);
            Check.same("lastAnswer()", x.lastAnswer(), answer);
        }
        x.answer(2, 1);
        x.answer(2, 2);
        x.pass(3);
        Check.same("lastAnswer() before two", x.lastAnswer(), 0);
        x.pass(1);
        Check.same("lastAnswer() of two", x.lastAnswer(), 2);
        x.answer(2, 3);
        x.setOpen(3, false);
        x.pass(4);
        Check.same("lastAnswer() after a loss", x.lastAnswer(), 2);
    }

    @Says("NONE if there was none.")
    static void promise22_lastAnswerOfNone() {
        Check.same("lastAnswer()", Given.fresh().lastAnswer(), NestedEnvelopes.NONE);
        Check.same("lastAnswer() after a letter", Given.delivered().lastAnswer(), NestedEnvelopes.NONE);
        Check.same("lastAnswer() on the way", passed(Given.answers(1), 3).lastAnswer(), NestedEnvelopes.NONE);
        Check.same("lastAnswer() of 0", passed(Given.answers(1), 4).lastAnswer(), 0);
    }

    @Says({"Returns a count.", "Returns the count so far.", "`what`: 0 letters that were sent,"
        + " 1 letters that were delivered, 2 answers that were sent, 3 answers that the traveller got,"
        + " 4 envelopes that were lost"})
    static void promise23_count() {
        NestedEnvelopes x = Given.road();
        x.send(0, 1);
        x.send(0, 2);
        x.send(0, 3);
        x.send(0, 4);
        x.send(0, 5);
        Check.counts(x, 5, 0, 0, 0, 0);
        x.pass(4);
        Check.counts(x, 5, 5, 0, 0, 0);
        x.answer(2, 1);
        x.answer(2, 2);
        x.answer(2, 3);
        Check.counts(x, 5, 5, 3, 0, 0);
        x.pass(4);
        Check.counts(x, 5, 5, 3, 3, 0);
        x.answer(2, 4);
        x.setOpen(0, false);
        x.pass(1);
        Check.counts(x, 5, 5, 4, 3, 1);
        x.send(0, 6);
        x.pass(9);
        Check.counts(x, 6, 5, 4, 3, 2);
        x.undo();
        x.undo();
        Check.counts(x, 5, 5, 4, 3, 1);
    }

    @Says({"Returns the count so far.", "0 letters that were sent"})
    static void promise23_countOfMany() {
        NestedEnvelopes x = Given.road();
        for (int round = 0; round < 18; round++) {
            for (int letter = 0; letter < 12; letter++) {
                x.send(0, letter);
            }
            x.pass(4);
            x.answer(2, round);
            x.pass(4);
        }
        Check.counts(x, 216, 216, 18, 18, 0);
    }

    @Says("Throws `IndexOutOfBoundsException` if what is out of range")
    static void promise23_countOutOfRange() {
        Check.indexRange(Given::busy, "count()", 0, 4, (x, what) -> x.count(what));
    }

    @Says({"Returns the share of letters that were delivered.", "Returns the number of letters that were delivered,"
        + " as a double, divided by the number of letters that were sent, as a double;"})
    static void promise24_deliveredShare() {
        NestedEnvelopes x = Given.letters(1);
        Check.sameDouble("deliveredShare() of 0 in 1", x.deliveredShare(), 0.0);
        x.pass(4);
        Check.sameDouble("deliveredShare() of 1 in 1", x.deliveredShare(), 1.0);
        x.send(0, 1);
        x.send(0, 1);
        Check.sameDouble("deliveredShare() of 1 in 3", x.deliveredShare(), 0.3333333333333333);
        x.answer(2, 5);
        Check.sameDouble("deliveredShare() beside an answer", x.deliveredShare(), 0.3333333333333333);
        x.pass(4);
        Check.sameDouble("deliveredShare() of 3 in 3", x.deliveredShare(), 1.0);
        x.send(0, 1);
        x.setOpen(3, false);
        x.pass(4);
        Check.sameDouble("deliveredShare() of 3 in 4", x.deliveredShare(), 0.75);
    }

    @Says("1.0 if none was sent.")
    static void promise24_deliveredShareOfNone() {
        Check.sameDouble("deliveredShare()", Given.fresh().deliveredShare(), 1.0);
        Check.sameDouble("deliveredShare() of a road", Given.road().deliveredShare(), 1.0);
        NestedEnvelopes x = Given.letters(1);
        x.undo();
        Check.sameDouble("deliveredShare() after undo()", x.deliveredShare(), 1.0);
    }
}
