import java.util.ArrayList;
import java.util.List;

/** What the tests share: comparing answers, the two sides of a range, and what a call may change. */
final class Check {

    /** How an object is made; each check makes its own, so that none is called too often. */
    interface Start {
        NestedEnvelopes make();
    }

    interface Call {
        void on(NestedEnvelopes x);
    }

    /** A call with the number whose range is looked at. */
    interface CallWith {
        void on(NestedEnvelopes x, int number);
    }

    private static final Class<?> NO_EXCEPTION = null;
    private static final Class<?> INDEX = IndexOutOfBoundsException.class;
    private static final Class<?> ARGUMENT = IllegalArgumentException.class;
    private static final Class<?> STATE = IllegalStateException.class;
    private static final int WIDE = 100;

    private static final List<String> wrong = new ArrayList<>();

    private Check() {
    }

    static List<String> takeWrong() {
        List<String> taken = new ArrayList<>(wrong);
        wrong.clear();
        return taken;
    }

    static void same(String call, long got, long due) {
        if (got != due) {
            wrong.add(call + " answered " + got + ", due is " + due);
        }
    }

    static void same(String call, boolean got, boolean due) {
        if (got != due) {
            wrong.add(call + " answered " + got + ", due is " + due);
        }
    }

    static void sameDouble(String call, double got, double due) {
        if (Double.compare(got, due) != 0) {
            wrong.add(call + " answered " + got + ", due is " + due);
        }
    }

    static void sameText(String call, String got, String due) {
        if (!got.equals(due)) {
            wrong.add(call + " answered " + got + ", due is " + due);
        }
    }

    // ---- calls that throw, and change nothing

    static void index(Start start, String name, Call call) {
        refused(start, name, INDEX, call);
    }

    static void argument(Start start, String name, Call call) {
        refused(start, name, ARGUMENT, call);
    }

    static void state(Start start, String name, Call call) {
        refused(start, name, STATE, call);
    }

    /** The numbers from low to high have an answer, those outside throw IndexOutOfBoundsException. */
    static void indexRange(Start start, String name, int low, int high, CallWith call) {
        range(start, name, low, high, INDEX, call);
    }

    /** The numbers from low to high have an answer, those outside throw IllegalArgumentException. */
    static void argumentRange(Start start, String name, int low, int high, CallWith call) {
        range(start, name, low, high, ARGUMENT, call);
    }

    private static void range(Start start, String name, int low, int high, Class<?> due, CallWith call) {
        for (int number : new int[] {low - 1, high + 1, Integer.MIN_VALUE, Integer.MAX_VALUE}) {
            refused(start, name + " of " + number, due, x -> call.on(x, number));
        }
        for (int number = low; number <= high; number++) {
            boolean isLooked = high - low <= WIDE || number == low || number == high;
            if (isLooked) {
                int inside = number;
                Class<?> got = thrownBy(start.make(), x -> call.on(x, inside));
                sameClass(name + " of " + number, got, NO_EXCEPTION);
            }
        }
    }

    private static void refused(Start start, String name, Class<?> due, Call call) {
        sameClass(name, thrownBy(start.make(), call), due);
        changesNothing(start, name, call);
    }

    private static void sameClass(String name, Class<?> got, Class<?> due) {
        if (got != due) {
            wrong.add(name + " threw " + got + ", due is " + due);
        }
    }

    private static Class<?> thrownBy(NestedEnvelopes x, Call call) {
        try {
            call.on(x);
            return NO_EXCEPTION;
        } catch (RuntimeException e) {
            return e.getClass();
        }
    }

    // ---- what a call changes

    /** An object on which the call was made cannot be told from one on which it was not. */
    static void changesNothing(Start start, String name, Call call) {
        NestedEnvelopes first = start.make();
        thrownBy(first, call);
        sameText("the past after " + name, past(first), past(start.make()));
        NestedEnvelopes second = start.make();
        thrownBy(second, call);
        sameText("the future after " + name, future(second), future(start.make()));
    }

    /** The call saves one state, and undo() takes back all that it changed, but for the buffer. */
    static void undoes(Start start, String name, Call call) {
        NestedEnvelopes first = start.make();
        int saved = first.savedStates();
        call.on(first);
        same("savedStates() after " + name, first.savedStates(), saved + 1);
        same("undo() of " + name, first.undo(), saved);
        sameText("the past after undo() of " + name, past(withoutText(first)), past(withoutText(start.make())));
        NestedEnvelopes second = start.make();
        call.on(second);
        second.undo();
        sameText("the future after undo() of " + name, future(withoutText(second)),
                future(withoutText(start.make())));
    }

    private static NestedEnvelopes withoutText(NestedEnvelopes x) {
        x.clearText();
        return x;
    }

    /** What can be seen now, and again after each undo(). */
    static String past(NestedEnvelopes x) {
        StringBuilder all = new StringBuilder(look(x));
        for (int left = x.savedStates(); left > 0; left--) {
            x.undo();
            all.append('\n').append(look(x));
        }
        return all.toString();
    }

    /** What comes of the buffer, the keys of the roads and the roads of the halls, which no call shows. */
    static String future(NestedEnvelopes x) {
        StringBuilder all = new StringBuilder();
        all.append(thrownBy(x, NestedEnvelopes::run)).append(' ').append(x.clearText());
        for (int round = 0; round < 3; round++) {
            all.append('\n').append(look(x));
            for (int hall = 0; hall < 4; hall++) {
                int number = hall;
                all.append(' ').append(thrownBy(x, y -> y.answer(number, 1)));
            }
            for (int road = 0; road < x.roads(); road++) {
                int number = road;
                all.append(' ').append(thrownBy(x, y -> y.send(number, 1)));
            }
            all.append('\n').append(look(x)).append(x.pass(9));
        }
        return all.toString();
    }

    /** All that can be asked of an object without changing it; the hash stands for the rows. */
    static String look(NestedEnvelopes x) {
        StringBuilder all = new StringBuilder();
        all.append(x.savedStates()).append(' ').append(x.firstError()).append(' ').append(x.digest());
        all.append(' ').append(x.roads()).append(' ').append(x.envelopes()).append(' ').append(x.lastAnswer());
        for (int inn = 0; inn < 8; inn++) {
            all.append(' ').append(x.isOpen(inn)).append(x.key(inn));
        }
        for (int what = 0; what < 5; what++) {
            all.append(' ').append(x.count(what));
        }
        for (int hall = 0; hall < 4; hall++) {
            all.append(' ').append(x.letter(hall));
        }
        return all.toString();
    }

    /** The numbers of an envelope: its road, its place, its body and its direction. */
    static void envelope(NestedEnvelopes x, int envelope, int... due) {
        for (int what = 0; what < due.length; what++) {
            same("envelope(" + envelope + ", " + what + ")", x.envelope(envelope, what), due[what]);
        }
    }

    static void counts(NestedEnvelopes x, int... due) {
        for (int what = 0; what < due.length; what++) {
            same("count(" + what + ")", x.count(what), due[what]);
        }
    }
}
