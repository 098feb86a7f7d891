import java.util.function.LongSupplier;

/** Runs of 512 drawn calls, the most that an object serves, whose answers must agree with the model's. */
final class ModelTest {

    private static final int RUNS = 1500;
    private static final int CALLS = 512;
    private static final String SIGNS = "rsacot;=0123456789x";

    private long seed;
    private final int style;
    private final NestedEnvelopes x = new NestedEnvelopes();
    private final Model model = new Model();
    private String tail = "";
    private int calls;

    private ModelTest(int run) {
        seed = 77777L * run + 5;
        style = run % 3;
    }

    static void whole_modelAgrees() {
        for (int run = 0; run < RUNS; run++) {
            ModelTest test = new ModelTest(run);
            while (test.calls < CALLS) {
                if (!test.step()) {
                    Check.sameText("run " + run + ", call " + test.calls, test.tail, "the same as the model");
                    return;
                }
            }
        }
    }

    // A linear congruence of its own, so that every run is the same everywhere.
    private int draw(int bound) {
        seed = seed * 6364136223846793005L + 1442695040888963407L;
        return (int) ((seed >>> 33) % bound);
    }

    // Mostly numbers from low to high, at times one beside them.
    private int near(int low, int high) {
        int kind = draw(40);
        if (kind == 0) {
            return low - 1;
        }
        if (kind == 1) {
            return high + 1;
        }
        if (kind == 2) {
            return draw(2) == 0 ? Integer.MIN_VALUE + draw(3) : Integer.MAX_VALUE - draw(3);
        }
        return low + draw(high - low + 1);
    }

    private int body() {
        int kind = draw(6);
        return kind == 0 ? 0 : kind == 1 ? 9999 : near(0, 9999);
    }

    // Beyond the last call that the document speaks of there is nothing to agree on.
    private boolean agree(String call, LongSupplier got, LongSupplier due) {
        if (calls == CALLS) {
            return true;
        }
        calls++;
        String one = answerOf(got);
        String other = answerOf(due);
        tail = call + " answered " + one + ", due is " + other;
        return one.equals(other);
    }

    private static String answerOf(LongSupplier call) {
        try {
            return Long.toString(call.getAsLong());
        } catch (RuntimeException e) {
            return e.getClass().getName();
        }
    }

    private static long bit(boolean is) {
        return is ? 1 : 0;
    }

    private boolean step() {
        int kind = draw(100);
        boolean same;
        if (kind < 45) {
            same = change(draw(style == 0 ? 14 : 10));
        } else if (kind < 60) {
            same = text();
        } else {
            same = ask(draw(20));
        }
        String asked = tail;
        boolean sameState = agree("savedStates() after " + asked, x::savedStates, model::savedStates)
                && agree("digest() after " + asked, x::digest, model::digest);
        if (!same) {
            tail = asked;
        }
        return same && sameState;
    }

    private boolean change(int kind) {
        int inn = near(0, 7);
        int other = near(0, 7);
        int third = near(0, 7);
        int hall = near(0, 3);
        int body = body();
        int road = near(0, (int) Math.max(0, model.roads() - 1));
        switch (kind) {
            case 0: case 1:
                return agree("lay " + inn + other + third + hall, () -> x.lay(inn, other, third, hall),
                        () -> model.lay(inn, other, third, hall));
            case 2: case 3: case 4:
                return agree("send " + road + " " + body, () -> x.send(road, body), () -> model.send(road, body));
            case 5: case 6:
                return agree("answer " + hall + " " + body, () -> x.answer(hall, body), () -> model.answer(hall, body));
            case 7: case 8: {
                int ticks = style == 1 ? near(1, 2) : near(1, 9);
                return agree("pass " + ticks, () -> x.pass(ticks), () -> model.pass(ticks));
            }
            case 9: {
                boolean open = draw(4) != 0;
                return agree("setOpen " + inn + open, () -> bit(x.setOpen(inn, open)), () -> model.setOpen(inn, open));
            }
            case 10:
                return agree("setKey " + inn + " " + body, () -> x.setKey(inn, body), () -> model.setKey(inn, body));
            case 11: case 12:
                return agree("takeUp", x::takeUp, model::takeUp);
            default:
                return agree("undo", x::undo, model::undo);
        }
    }

    private boolean text() {
        boolean same = true;
        if (draw(3) == 0) {
            same = agree("clearText", x::clearText, model::clearText);
        }
        int orders = 1 + draw(8);
        StringBuilder drawn = new StringBuilder();
        for (int order = 0; order < orders; order++) {
            drawn.append(order == 0 ? "" : ";").append(order());
        }
        if (draw(4) == 0) {
            drawn.setCharAt(draw(drawn.length()), SIGNS.charAt(draw(SIGNS.length())));
        }
        for (int i = 0; i < drawn.length() && same; i++) {
            int code = drawn.charAt(i);
            same = agree("append " + code, () -> x.append(code), () -> model.append(code))
                    && agree("firstError", x::firstError, model::firstError);
        }
        return same && agree("run " + drawn, x::run, model::run);
    }

    private String order() {
        switch (draw(6)) {
            case 0: {
                int first = draw(8);
                int second = (first + 1 + draw(3)) % 8;
                return "r" + first + second + (second + 1 + draw(3)) % 8 + draw(4);
            }
            case 1:
                return "s" + draw(6) + "=" + draw(10000);
            case 2:
                return "a" + draw(4) + "=" + draw(100);
            case 3:
                return "t" + (1 + draw(9));
            default:
                return (draw(3) == 0 ? "c" : "o") + draw(8);
        }
    }

    private boolean ask(int kind) {
        int inn = near(0, 7);
        int road = near(0, (int) Math.max(0, model.roads() - 1));
        int envelope = near(0, (int) Math.max(0, model.envelopes() - 1));
        int small = near(0, 4);
        int body = body();
        switch (kind) {
            case 0: return agree("isOpen " + inn, () -> bit(x.isOpen(inn)), () -> model.isOpen(inn));
            case 1: return agree("key " + inn, () -> x.key(inn), () -> model.key(inn));
            case 2: return agree("cover " + inn + " " + body, () -> x.cover(inn, body), () -> model.cover(inn, body));
            case 3: return agree("uncover " + inn + " " + body, () -> x.uncover(inn, body),
                    () -> model.uncover(inn, body));
            case 4: return agree("roads", x::roads, model::roads);
            case 5: return agree("inn " + road + " " + small, () -> x.inn(road, small), () -> model.inn(road, small));
            case 6: return agree("hall " + road, () -> x.hall(road), () -> model.hall(road));
            case 7: return agree("stands " + road, () -> bit(x.stands(road)), () -> model.stands(road));
            case 8: case 9: {
                int side = near(0, 1);
                return agree("see " + inn + road + side, () -> x.see(inn, road, side),
                        () -> model.see(inn, road, side));
            }
            case 10: return agree("known " + inn, () -> x.known(inn), () -> model.known(inn));
            case 11: return agree("envelopes", x::envelopes, model::envelopes);
            case 12: return agree("envelope " + envelope + " " + small, () -> x.envelope(envelope, small),
                    () -> model.envelope(envelope, small));
            case 13: return agree("letter " + small, () -> x.letter(small), () -> model.letter(small));
            case 14: return agree("lastAnswer", x::lastAnswer, model::lastAnswer);
            case 15: return agree("count " + small, () -> x.count(small), () -> model.count(small));
            case 16: return agree("deliveredShare", () -> Double.doubleToLongBits(x.deliveredShare()),
                    () -> Double.doubleToLongBits(model.deliveredShare()));
            case 17: return agree("lostIfClosed " + inn, () -> x.lostIfClosed(inn), () -> model.lostIfClosed(inn));
            case 18: return agree("ticksTo " + envelope, () -> x.ticksTo(envelope), () -> model.ticksTo(envelope));
            default: return agree("leastWork " + small, () -> x.leastWork(small), () -> model.leastWork(small));
        }
    }
}
