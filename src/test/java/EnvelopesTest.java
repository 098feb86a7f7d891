/** Promises 16 to 24: letters, answers and what becomes of them. */
final class EnvelopesTest {

    private EnvelopesTest() {
    }

    private static void sameEnvelope(NestedEnvelopes x, int envelope, int... due) {
        for (int what = 0; what < due.length; what++) {
            Check.same("envelope(" + envelope + ", " + what + ")", x.envelope(envelope, what), due[what]);
        }
    }

    private static void sameCounts(NestedEnvelopes x, int... due) {
        for (int what = 0; what < due.length; what++) {
            Check.same("count(" + what + ")", x.count(what), due[what]);
        }
    }

    private static NestedEnvelopes withTwelve() {
        NestedEnvelopes x = Check.withRoad();
        for (int envelope = 0; envelope < 12; envelope++) {
            x.send(0, envelope);
        }
        return x;
    }

    static void promise16_send() {
        NestedEnvelopes x = Check.withRoad();
        Check.same("send(0, 42)", x.send(0, 42), 0);
        Check.same("send(0, 9999)", x.send(0, 9999), 1);
        sameEnvelope(x, 0, 0, 0, 9951, 0);
        sameEnvelope(x, 1, 0, 0, 5202, 0);
        sameCounts(x, 2, 0, 0, 0, 0);
        x.undo();
        Check.same("envelopes() after undo", x.envelopes(), 1);
        sameCounts(x, 1, 0, 0, 0, 0);
    }

    static void promise16_sendOnBrokenRoad() {
        NestedEnvelopes x = Check.withRoad();
        x.setOpen(3, false);
        Check.same("send(0, 1) on a road that does not stand", x.send(0, 1), 0);
        Check.same("pass(1)", x.pass(1), 0);
        sameCounts(x, 1, 0, 0, 0, 1);
    }

    static void promise16_sendWrong() {
        NestedEnvelopes x = withTwelve();
        Check.index(x, "send(1, 10000)", () -> x.send(1, 10000));
        Check.index(x, "send(-1, 0)", () -> x.send(-1, 0));
        Check.argument(x, "send(0, 10000)", () -> x.send(0, 10000));
        Check.argument(x, "send(0, -1)", () -> x.send(0, -1));
        Check.state(x, "a thirteenth send(0, 0)", () -> x.send(0, 0));
    }

    static void promise17_answer() {
        NestedEnvelopes x = Check.withRoad();
        x.send(0, 42);
        x.pass(4);
        Check.same("answer(2, 9999)", x.answer(2, 9999), 0);
        Check.same("answer(2, 0)", x.answer(2, 0), 1);
        sameEnvelope(x, 0, 0, 4, 9999, 1);
        sameEnvelope(x, 1, 0, 4, 0, 1);
        sameCounts(x, 1, 1, 2, 0, 0);
        x.undo();
        Check.same("envelopes() after undo", x.envelopes(), 1);
    }

    static void promise17_answerOnTheLastRoad() {
        NestedEnvelopes x = Check.withRoad();
        x.lay(1, 2, 4, 2);
        x.send(1, 5);
        x.send(0, 6);
        x.pass(4);
        Check.same("letter(2)", x.letter(2), 6);
        x.answer(2, 1);
        Check.same("road of the answer", x.envelope(0, 0), 0);
        x.send(1, 7);
        x.pass(4);
        x.answer(2, 1);
        Check.same("road of the next answer", x.envelope(0, 0), 1);
    }

    static void promise17_answerWrong() {
        NestedEnvelopes x = withTwelve();
        Check.index(x, "answer(4, 10000)", () -> x.answer(4, 10000));
        Check.index(x, "answer(-1, 0)", () -> x.answer(-1, 0));
        Check.argument(x, "answer(2, 10000)", () -> x.answer(2, 10000));
        Check.argument(x, "answer(2, -1)", () -> x.answer(2, -1));
        Check.state(x, "answer(2, 0) without a letter", () -> x.answer(2, 0));
        x.pass(4);
        for (int envelope = 0; envelope < 12; envelope++) {
            x.answer(2, envelope);
        }
        Check.state(x, "a thirteenth answer(2, 0)", () -> x.answer(2, 0));
        Check.state(x, "answer(1, 0) without a letter", () -> x.answer(1, 0));
    }

    static void promise17_answerAfterTakeUp() {
        NestedEnvelopes x = Check.withRoad();
        x.lay(1, 2, 4, 3);
        x.send(0, 5);
        x.send(1, 6);
        x.pass(4);
        x.takeUp();
        Check.same("letter(3)", x.letter(3), 6);
        Check.state(x, "answer(3, 0) when its road is taken up", () -> x.answer(3, 0));
        x.lay(1, 2, 4, 3);
        Check.state(x, "answer(3, 0) on a new road", () -> x.answer(3, 0));
        Check.same("answer(2, 0)", x.answer(2, 0), 0);
        x.send(1, 7);
        x.pass(4);
        Check.same("answer(3, 0) after another letter", x.answer(3, 0), 0);
        NestedEnvelopes y = Check.withRoad();
        y.send(0, 5);
        y.pass(4);
        y.takeUp();
        y.undo();
        Check.same("answer(2, 0) after takeUp() and undo()", y.answer(2, 0), 0);
    }

    static void promise18_pass() {
        NestedEnvelopes x = Check.withRoad();
        x.send(0, 42);
        int[] bodies = {6501, 1405, 42};
        for (int tick = 1; tick <= 3; tick++) {
            Check.same("pass(1)", x.pass(1), 0);
            sameEnvelope(x, 0, 0, tick, bodies[tick - 1], 0);
        }
        Check.same("pass(1) to the hall", x.pass(1), 1);
        Check.same("envelopes()", x.envelopes(), 0);
        Check.same("letter(2)", x.letter(2), 42);
        x.answer(2, 9999);
        Check.same("pass(3)", x.pass(3), 0);
        sameEnvelope(x, 0, 0, 1, 5202, 1);
        Check.same("pass(9)", x.pass(9), 1);
        Check.same("lastAnswer()", x.lastAnswer(), 9999);
        sameCounts(x, 1, 1, 1, 1, 0);
        x.undo();
        Check.same("envelopes() after undo", x.envelopes(), 1);
        Check.same("lastAnswer() after undo", x.lastAnswer(), -1);
    }

    static void promise18_passUsesKeysOfTheRoad() {
        NestedEnvelopes x = Check.withRoad();
        x.send(0, 42);
        x.setKey(3, 1);
        x.setKey(5, 2);
        x.setKey(0, 3);
        x.pass(4);
        Check.same("letter(2)", x.letter(2), 42);
        x.answer(2, 17);
        x.pass(1);
        Check.same("body of the answer", x.envelope(0, 2), 7 * 17 + 1111);
        x.pass(3);
        Check.same("lastAnswer()", x.lastAnswer(), 17);
    }

    static void promise18_passAtClosedInns() {
        NestedEnvelopes x = Check.withRoad();
        x.send(0, 1);
        x.pass(1);
        x.send(0, 2);
        x.setOpen(3, false);
        Check.same("pass(1)", x.pass(1), 0);
        Check.same("envelopes()", x.envelopes(), 1);
        Check.same("place of the one that is past", x.envelope(0, 1), 2);
        Check.same("body of the one that is past", x.envelope(0, 2), x.cover(0, 1));
        Check.same("pass(2)", x.pass(2), 1);
        x.answer(2, 5);
        Check.same("pass(9) back", x.pass(9), 0);
        Check.same("envelopes() after it", x.envelopes(), 0);
        sameCounts(x, 2, 1, 1, 0, 2);
        Check.same("lastAnswer()", x.lastAnswer(), -1);
    }

    static void promise18_passKeepsOrder() {
        NestedEnvelopes x = Check.withRoad();
        x.lay(1, 2, 4, 2);
        x.send(0, 1);
        x.send(1, 2);
        x.send(0, 3);
        x.send(1, 4);
        x.setOpen(1, false);
        x.pass(1);
        Check.same("envelopes()", x.envelopes(), 2);
        x.pass(2);
        sameEnvelope(x, 0, 0, 3, 1, 0);
        sameEnvelope(x, 1, 0, 3, 3, 0);
        Check.same("pass(1)", x.pass(1), 2);
        Check.same("letter(2), the later one of the tick", x.letter(2), 3);
    }

    static void promise18_passWrong() {
        NestedEnvelopes x = withTwelve();
        Check.argument(x, "pass(0)", () -> x.pass(0));
        Check.argument(x, "pass(10)", () -> x.pass(10));
        Check.argument(x, "pass(-1)", () -> x.pass(-1));
        Check.same("pass(9)", x.pass(9), 12);
        Check.same("pass(9) of nothing", x.pass(9), 0);
    }

    static void promise19_envelopes() {
        NestedEnvelopes x = Check.withRoad();
        Check.same("envelopes()", x.envelopes(), 0);
        x.send(0, 1);
        x.send(0, 2);
        Check.same("envelopes() of two", x.envelopes(), 2);
        x.pass(3);
        Check.same("envelopes() at the third inn", x.envelopes(), 2);
        x.pass(1);
        Check.same("envelopes() after the hall", x.envelopes(), 0);
        Check.same("envelopes() of twelve", withTwelve().envelopes(), 12);
    }

    static void promise20_envelope() {
        NestedEnvelopes x = Check.withRoad();
        x.lay(0, 1, 2, 3);
        x.send(1, 0);
        x.pass(2);
        Check.same("envelope(0, 0)", x.envelope(0, 0), 1);
        Check.same("envelope(0, 1)", x.envelope(0, 1), 2);
        Check.same("envelope(0, 2)", x.envelope(0, 2), 3333);
        Check.same("envelope(0, 3)", x.envelope(0, 3), 0);
        Check.index(x, "envelope(1, 0)", () -> x.envelope(1, 0));
        Check.index(x, "envelope(-1, 0)", () -> x.envelope(-1, 0));
        Check.index(x, "envelope(0, 4)", () -> x.envelope(0, 4));
        Check.index(x, "envelope(0, -1)", () -> x.envelope(0, -1));
        Check.index(x, "envelope(1, 4)", () -> x.envelope(1, 4));
    }

    static void promise21_letter() {
        NestedEnvelopes x = Check.withRoad();
        Check.same("letter(2)", x.letter(2), -1);
        x.send(0, 0);
        x.pass(4);
        Check.same("letter(2) of 0", x.letter(2), 0);
        x.send(0, 8);
        x.pass(4);
        Check.same("letter(2) of 8", x.letter(2), 8);
        Check.same("letter(3)", x.letter(3), -1);
        x.answer(2, 9);
        Check.same("letter(2) after an answer", x.letter(2), 8);
        Check.index(x, "letter(4)", () -> x.letter(4));
        Check.index(x, "letter(-1)", () -> x.letter(-1));
    }

    static void promise22_lastAnswer() {
        NestedEnvelopes x = Check.withRoad();
        Check.same("lastAnswer()", x.lastAnswer(), -1);
        x.send(0, 3);
        x.pass(4);
        x.answer(2, 0);
        x.answer(2, 77);
        Check.same("lastAnswer() on the way", x.lastAnswer(), -1);
        Check.same("pass(4)", x.pass(4), 2);
        Check.same("lastAnswer() of two", x.lastAnswer(), 77);
    }

    static void promise23_count() {
        NestedEnvelopes x = Check.withRoad();
        x.send(0, 1);
        x.send(0, 2);
        x.send(0, 3);
        x.pass(4);
        x.answer(2, 1);
        x.answer(2, 2);
        x.pass(4);
        x.answer(2, 3);
        x.setOpen(0, false);
        x.pass(1);
        sameCounts(x, 3, 3, 3, 2, 1);
        x.undo();
        sameCounts(x, 3, 3, 3, 2, 0);
        Check.index(x, "count(5)", () -> x.count(5));
        Check.index(x, "count(-1)", () -> x.count(-1));
    }

    static void promise24_deliveredShare() {
        NestedEnvelopes x = Check.withRoad();
        Check.sameDouble("deliveredShare()", x.deliveredShare(), 1.0);
        x.send(0, 1);
        Check.sameDouble("deliveredShare() of 0 in 1", x.deliveredShare(), 0.0);
        x.pass(4);
        Check.sameDouble("deliveredShare() of 1 in 1", x.deliveredShare(), 1.0);
        x.send(0, 1);
        x.send(0, 1);
        Check.sameDouble("deliveredShare() of 1 in 3", x.deliveredShare(), 1.0 / 3.0);
        x.answer(2, 5);
        x.pass(4);
        Check.sameDouble("deliveredShare() beside answers", x.deliveredShare(), 1.0);
    }
}
