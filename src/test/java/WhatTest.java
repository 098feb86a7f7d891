/** The document's first section: what it is. */
final class WhatTest {

    private static final int CALLS = 512;

    private WhatTest() {
    }

    @Says({"Nested envelopes that go through three inns, each of which opens just one cover:",
        "roads of inns, keys, letters that are covered for each inn and uncovered one by one,"})
    static void what_eachInnOpensOneCover() {
        NestedEnvelopes x = Given.road();
        int forTheThird = x.cover(0, 42);
        int forTheSecond = x.cover(5, forTheThird);
        x.send(0, 42);
        Check.envelope(x, 0, 0, 0, x.cover(3, forTheSecond), 0);
        x.pass(1);
        Check.envelope(x, 0, 0, 1, forTheSecond, 0);
        x.pass(1);
        Check.envelope(x, 0, 0, 2, forTheThird, 0);
        x.pass(1);
        Check.envelope(x, 0, 0, 3, 42, 0);
        x.pass(1);
        Check.same("letter(2)", x.letter(2), 42);
    }

    @Says("answers that come back in the other order,")
    static void what_answersComeBackInTheOtherOrder() {
        NestedEnvelopes x = Given.answers(0);
        x.answer(2, 7);
        Check.envelope(x, 0, 0, 4, 7, 1);
        int ofTheThird = x.cover(0, 7);
        int ofTheSecond = x.cover(5, ofTheThird);
        x.pass(1);
        Check.envelope(x, 0, 0, 3, ofTheThird, 1);
        x.pass(1);
        Check.envelope(x, 0, 0, 2, ofTheSecond, 1);
        x.pass(1);
        Check.envelope(x, 0, 0, 1, x.cover(3, ofTheSecond), 1);
        x.pass(1);
        Check.same("lastAnswer()", x.lastAnswer(), 7);
    }

    @Says("inns that close and envelopes that get lost,")
    static void what_envelopesGetLost() {
        for (int inn : new int[] {3, 5, 0}) {
            NestedEnvelopes x = Given.answers(1);
            x.send(0, 5);
            x.setOpen(inn, false);
            Check.same("pass(9) without " + inn, x.pass(9), 0);
            Check.counts(x, 2, 1, 1, 0, 2);
        }
    }

    @Says("what an inn sees and what it knows,")
    static void what_innsKnowWhatTheySee() {
        NestedEnvelopes x = Given.sixRoads();
        for (int inn = 0; inn < 8; inn++) {
            int mask = 0;
            for (int road = 0; road < 6; road++) {
                for (int side = 0; side < 2; side++) {
                    int seen = x.see(inn, road, side);
                    mask |= seen >= 0 && seen < 8 ? 1 << seen : 0;
                }
            }
            Check.same("known(" + inn + ")", x.known(inn), mask);
        }
    }

    private static void isBody(String name, int body) {
        Check.same(name + " " + body + " is a body", body >= 0 && body <= 9999, true);
    }

    private static NestedEnvelopes withKeys(int key) {
        NestedEnvelopes x = new NestedEnvelopes();
        for (int inn : new int[] {3, 5, 0}) {
            x.setKey(inn, key);
        }
        x.lay(3, 5, 0, 2);
        return x;
    }

    @Says("bodies of the same size everywhere,")
    static void what_bodiesHaveTheSameSizeEverywhere() {
        for (int key : new int[] {0, 1, 4999, 5000, 9998, 9999}) {
            for (int body : new int[] {0, 1, 1428, 1429, 4999, 5000, 9998, 9999}) {
                NestedEnvelopes x = withKeys(key);
                isBody("cover()", x.cover(3, body));
                isBody("uncover()", x.uncover(3, body));
                x.send(0, body);
                isBodyAtEachPlace(x);
                isBody("letter()", x.letter(2));
                x.answer(2, body);
                isBodyAtEachPlace(x);
                isBody("lastAnswer()", x.lastAnswer());
            }
        }
    }

    private static void isBodyAtEachPlace(NestedEnvelopes x) {
        for (int tick = 0; tick < 4; tick++) {
            isBody("envelope(0, 2)", x.envelope(0, 2));
            x.pass(1);
        }
    }

    @Says("forecasts, orders that are read from texts, and undo.")
    static void what_forecastsOrdersAndUndo() {
        NestedEnvelopes x = Given.letters(2);
        Check.same("ticksTo(1)", x.ticksTo(1), 4);
        Check.same("lostIfClosed(5)", x.lostIfClosed(5), 2);
        long before = x.digest();
        Given.write(x, "t1;c5;t9");
        Check.same("run()", x.run(), 3);
        Check.counts(x, 2, 0, 0, 0, 2);
        x.undo();
        Check.same("digest() after undo()", x.digest(), before);
        Check.same("pass(4), as ticksTo() told", x.pass(4), 2);
    }

    @Says("An object is used for at most 512 calls after it has been made;")
    static void what_anObjectServes512Calls() {
        NestedEnvelopes x = new NestedEnvelopes();
        x.lay(3, 5, 0, 2);
        int calls = 1;
        for (int round = 1; calls + 5 < CALLS; round++) {
            Check.same("send() " + round, x.send(0, round), 0);
            Check.same("pass() of the letter " + round, x.pass(4), 1);
            Check.same("letter() " + round, x.letter(2), round);
            Check.same("answer() " + round, x.answer(2, 9999 - round), 0);
            Check.same("pass() of the answer " + round, x.pass(4), 1);
            calls += 5;
        }
        Check.same("lastAnswer(), the call " + (calls + 1), x.lastAnswer(), 9897);
        Check.same("all calls", calls + 1, CALLS);
    }
}
