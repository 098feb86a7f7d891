import java.util.ArrayList;
import java.util.List;

/** What the tests share: comparing answers, and watching that a call that throws changes nothing. */
final class Check {

    /** A call that may throw. */
    interface Call {
        void make();
    }

    private static final List<String> wrong = new ArrayList<>();

    private Check() {
    }

    static List<String> takeWrong() {
        List<String> taken = new ArrayList<>(wrong);
        wrong.clear();
        return taken;
    }

    static void same(String call, long got, long due) {
        if (got != due) {
            wrong.add(call + " answered " + got + ", due is " + due);
        }
    }

    static void same(String call, boolean got, boolean due) {
        if (got != due) {
            wrong.add(call + " answered " + got + ", due is " + due);
        }
    }

    static void sameDouble(String call, double got, double due) {
        if (Double.compare(got, due) != 0) {
            wrong.add(call + " answered " + got + ", due is " + due);
        }
    }

    static void sameText(String call, String got, String due) {
        if (!got.equals(due)) {
            wrong.add(call + " answered " + got + ", due is " + due);
        }
    }

    static void index(NestedEnvelopes x, String name, Call call) {
        refused(x, name, IndexOutOfBoundsException.class, call);
    }

    static void argument(NestedEnvelopes x, String name, Call call) {
        refused(x, name, IllegalArgumentException.class, call);
    }

    static void state(NestedEnvelopes x, String name, Call call) {
        refused(x, name, IllegalStateException.class, call);
    }

    private static void refused(NestedEnvelopes x, String name, Class<?> due, Call call) {
        String before = look(x);
        Class<?> got = null;
        try {
            call.make();
        } catch (RuntimeException e) {
            got = e.getClass();
        }
        if (got != due) {
            wrong.add(name + " threw " + got + ", due is " + due);
        }
        if (!before.equals(look(x))) {
            wrong.add(name + " threw and changed the object");
        }
    }

    /** All that can be asked of an object without changing it. */
    static String look(NestedEnvelopes x) {
        StringBuilder all = new StringBuilder();
        all.append(x.savedStates()).append(' ').append(x.firstError()).append(' ').append(x.digest());
        all.append(' ').append(x.roads()).append(' ').append(x.envelopes()).append(' ').append(x.lastAnswer());
        for (int inn = 0; inn < 8; inn++) {
            all.append(' ').append(x.isOpen(inn)).append(x.key(inn));
        }
        for (int what = 0; what < 5; what++) {
            all.append(' ').append(x.count(what));
        }
        for (int hall = 0; hall < 4; hall++) {
            all.append(' ').append(x.letter(hall));
        }
        return all.toString();
    }

    /** An object with the road 0 through the inns 3, 5 and 0 to the hall 2. */
    static NestedEnvelopes withRoad() {
        NestedEnvelopes x = new NestedEnvelopes();
        x.lay(3, 5, 0, 2);
        return x;
    }

    static void write(NestedEnvelopes x, String text) {
        for (int i = 0; i < text.length(); i++) {
            x.append(text.charAt(i));
        }
    }
}
