/** Promises 25 to 27: the forecasts. */
final class ForecastsTest {

    private ForecastsTest() {
    }

    static void promise25_lostIfClosed() {
        NestedEnvelopes x = new NestedEnvelopes();
        x.lay(0, 1, 2, 0);
        x.lay(2, 1, 0, 1);
        x.send(0, 1);
        x.send(1, 2);
        x.pass(1);
        x.send(0, 3);
        Check.same("lostIfClosed(1)", x.lostIfClosed(1), 3);
        Check.same("lostIfClosed(0), past for one", x.lostIfClosed(0), 2);
        Check.same("lostIfClosed(2), past for one", x.lostIfClosed(2), 2);
        Check.same("lostIfClosed(7)", x.lostIfClosed(7), 0);
        x.setOpen(0, false);
        Check.same("lostIfClosed(7) when 0 is closed", x.lostIfClosed(7), 2);
        Check.same("lostIfClosed(0) when 0 is closed", x.lostIfClosed(0), 2);
        Check.same("lostIfClosed(2) when 0 is closed", x.lostIfClosed(2), 3);
        Check.same("savedStates()", x.savedStates(), 6);
        Check.same("isOpen(2)", x.isOpen(2), true);
    }

    static void promise25_lostIfClosedOnTheWayBack() {
        NestedEnvelopes x = Check.withRoad();
        x.send(0, 1);
        x.pass(4);
        x.answer(2, 1);
        Check.same("lostIfClosed(0) from the hall", x.lostIfClosed(0), 1);
        Check.same("lostIfClosed(3) from the hall", x.lostIfClosed(3), 1);
        x.pass(2);
        Check.same("lostIfClosed(0) behind", x.lostIfClosed(0), 0);
        Check.same("lostIfClosed(5) at it", x.lostIfClosed(5), 0);
        Check.same("lostIfClosed(3) ahead", x.lostIfClosed(3), 1);
        Check.index(x, "lostIfClosed(8)", () -> x.lostIfClosed(8));
        Check.index(x, "lostIfClosed(-1)", () -> x.lostIfClosed(-1));
    }

    static void promise26_ticksTo() {
        NestedEnvelopes x = Check.withRoad();
        x.send(0, 1);
        for (int tick = 0; tick < 4; tick++) {
            Check.same("ticksTo(0) out after " + tick, x.ticksTo(0), 4 - tick);
            x.pass(1);
        }
        x.answer(2, 1);
        for (int tick = 0; tick < 4; tick++) {
            Check.same("ticksTo(0) back after " + tick, x.ticksTo(0), 4 - tick);
            x.pass(1);
        }
        Check.index(x, "ticksTo(0) when it has arrived", () -> x.ticksTo(0));
        Check.index(x, "ticksTo(-1)", () -> x.ticksTo(-1));
    }

    static void promise26_ticksToAtClosedInns() {
        NestedEnvelopes x = Check.withRoad();
        x.send(0, 1);
        x.pass(1);
        x.send(0, 2);
        x.setOpen(3, false);
        Check.same("ticksTo(0), in the closed inn", x.ticksTo(0), 3);
        Check.same("ticksTo(1), before it", x.ticksTo(1), -1);
        x.setOpen(3, true);
        x.setOpen(0, false);
        Check.same("ticksTo(0), before the third inn", x.ticksTo(0), -1);
        x.setOpen(0, true);
        x.pass(4);
        x.answer(2, 3);
        x.setOpen(3, false);
        Check.same("ticksTo(0), back to a closed inn", x.ticksTo(0), -1);
        x.setOpen(3, true);
        x.pass(3);
        x.setOpen(5, false);
        x.setOpen(3, false);
        Check.same("ticksTo(0), back and past all", x.ticksTo(0), 1);
    }

    static void promise27_leastWork() {
        NestedEnvelopes x = new NestedEnvelopes();
        Check.same("leastWork(1) without roads", x.leastWork(1), 0);
        Check.same("leastWork(3) without roads", x.leastWork(3), 2);
        x.lay(0, 1, 2, 0);
        x.lay(2, 1, 0, 1);
        x.lay(3, 4, 5, 0);
        x.lay(6, 4, 2, 0);
        Check.same("leastWork(1)", x.leastWork(1), 7);
        Check.same("leastWork(2)", x.leastWork(2), 3);
        Check.same("leastWork(3)", x.leastWork(3), 5);
        x.setOpen(7, false);
        x.setOpen(5, false);
        Check.same("leastWork(1) without 5 and 7", x.leastWork(1), 3);
        Check.same("leastWork(2) without 5 and 7", x.leastWork(2), 6);
        Check.same("leastWork(3) without 5 and 7", x.leastWork(3), 0);
    }

    static void promise27_leastWorkOfBusyInns() {
        NestedEnvelopes x = new NestedEnvelopes();
        for (int road = 0; road < 6; road++) {
            x.lay(0, 1, 2, 0);
        }
        for (int inn = 3; inn < 8; inn++) {
            x.setOpen(inn, false);
        }
        Check.same("leastWork(1)", x.leastWork(1), 0);
        Check.same("leastWork(3)", x.leastWork(3), 2);
        x.setOpen(0, false);
        Check.same("leastWork(2) of two", x.leastWork(2), 2);
        Check.same("leastWork(3) of two", x.leastWork(3), -1);
        Check.index(x, "leastWork(0)", () -> x.leastWork(0));
        Check.index(x, "leastWork(4)", () -> x.leastWork(4));
    }
}
