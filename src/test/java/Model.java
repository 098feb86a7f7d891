import java.util.ArrayDeque;
import java.util.ArrayList;
import java.util.Comparator;
import java.util.Deque;
import java.util.HashSet;
import java.util.List;
import java.util.Set;
import java.util.regex.Matcher;
import java.util.regex.Pattern;

/**
 * The document once more, written as unlike the class as can be: objects and lists, copies of the
 * whole, forecasts by letting a copy run on, and a regular expression for the order text.
 */
final class Model {

    private static final String BODY = "(?:0|[1-9][0-9]{0,3})";
    private static final String ORDER = "(?:r(?:" + inns() + ")[0-3]|s[0-5]=" + BODY + "|a[0-3]=" + BODY
            + "|[co][0-7]|t[1-9])";
    private static final Pattern TEXT = Pattern.compile(ORDER + "(?:;" + ORDER + ")*");

    private static final class Road {
        final int[] inns;
        final int[] keys;
        final int hall;

        Road(int[] inns, int[] keys, int hall) {
            this.inns = inns;
            this.keys = keys;
            this.hall = hall;
        }
    }

    private static final class Envelope {
        final Road road;
        final boolean isOut;
        int place;
        int body;

        Envelope(Road road, boolean isOut, int place, int body) {
            this.road = road;
            this.isOut = isOut;
            this.place = place;
            this.body = body;
        }
    }

    private Set<Integer> closed = new HashSet<>();
    private int[] keys = {1111, 2222, 3333, 4444, 5555, 6666, 7777, 8888};
    private List<Road> roads = new ArrayList<>();
    private List<Envelope> envelopes = new ArrayList<>();
    private Integer[] letters = new Integer[4];
    private Road[] letterRoads = new Road[4];
    private Integer lastAnswer;
    private int[] counts = new int[5];
    private final StringBuilder buffer = new StringBuilder();
    private final Deque<Model> saved = new ArrayDeque<>();

    private static String inns() {
        StringBuilder all = new StringBuilder();
        for (int number = 0; number < 512; number++) {
            int first = number / 64;
            int second = number / 8 % 8;
            int third = number % 8;
            if (first != second && second != third && first != third) {
                all.append(all.length() == 0 ? "" : "|").append(first).append(second).append(third);
            }
        }
        return all.toString();
    }

    private static void range(int value, int low, int high) {
        if (value < low || value > high) {
            throw new IndexOutOfBoundsException();
        }
    }

    private static void body(int value) {
        if (value < 0 || value >= 10000) {
            throw new IllegalArgumentException();
        }
    }

    private static void allowed(boolean isAllowed) {
        if (!isAllowed) {
            throw new IllegalStateException();
        }
    }

    private Model copy() {
        Model copy = new Model();
        copy.take(this);
        return copy;
    }

    private void take(Model other) {
        closed = new HashSet<>(other.closed);
        keys = other.keys.clone();
        roads = new ArrayList<>(other.roads);
        envelopes = new ArrayList<>();
        for (Envelope e : other.envelopes) {
            envelopes.add(new Envelope(e.road, e.isOut, e.place, e.body));
        }
        letters = other.letters.clone();
        letterRoads = other.letterRoads.clone();
        lastAnswer = other.lastAnswer;
        counts = other.counts.clone();
    }

    private void save() {
        saved.addLast(copy());
        if (saved.size() > 6) {
            saved.removeFirst();
        }
    }

    private static int coverWith(int key, int body) {
        return (7 * body + key) % 10000;
    }

    private static int uncoverWith(int key, int body) {
        return (int) ((7143L * (body - key + 10000)) % 10000);
    }

    long setOpen(int inn, boolean isOpen) {
        range(inn, 0, 7);
        save();
        return (isOpen ? closed.remove(inn) : !closed.add(inn)) ? 0 : 1;
    }

    long setKey(int inn, int key) {
        range(inn, 0, 7);
        body(key);
        save();
        int previous = keys[inn];
        keys[inn] = key;
        return previous;
    }

    long isOpen(int inn) {
        range(inn, 0, 7);
        return closed.contains(inn) ? 0 : 1;
    }

    long key(int inn) {
        range(inn, 0, 7);
        return keys[inn];
    }

    long cover(int inn, int body) {
        range(inn, 0, 7);
        body(body);
        return coverWith(keys[inn], body);
    }

    long uncover(int inn, int body) {
        range(inn, 0, 7);
        body(body);
        return uncoverWith(keys[inn], body);
    }

    long lay(int first, int second, int third, int hall) {
        int[] three = {first, second, third};
        Set<Integer> different = new HashSet<>();
        boolean anyClosed = false;
        for (int inn : three) {
            range(inn, 0, 7);
            different.add(inn);
            anyClosed |= closed.contains(inn);
        }
        range(hall, 0, 3);
        if (different.size() < 3) {
            throw new IllegalArgumentException();
        }
        allowed(roads.size() < 6 && !anyClosed);
        save();
        roads.add(new Road(three, new int[] {keys[first], keys[second], keys[third]}, hall));
        return roads.size() - 1;
    }

    long takeUp() {
        allowed(!roads.isEmpty());
        Road last = roads.get(roads.size() - 1);
        for (Envelope e : envelopes) {
            allowed(e.road != last);
        }
        save();
        roads.remove(last);
        return roads.size();
    }

    long roads() {
        return roads.size();
    }

    long inn(int road, int place) {
        range(road, 0, roads.size() - 1);
        range(place, 1, 3);
        return roads.get(road).inns[place - 1];
    }

    long hall(int road) {
        range(road, 0, roads.size() - 1);
        return roads.get(road).hall;
    }

    long stands(int road) {
        range(road, 0, roads.size() - 1);
        for (int inn : roads.get(road).inns) {
            if (closed.contains(inn)) {
                return 0;
            }
        }
        return 1;
    }

    long see(int inn, int road, int side) {
        range(inn, 0, 7);
        range(road, 0, roads.size() - 1);
        range(side, 0, 1);
        Road r = roads.get(road);
        int[] row = {8, r.inns[0], r.inns[1], r.inns[2], 10 + r.hall};
        for (int i = 1; i <= 3; i++) {
            if (row[i] == inn) {
                return side == 0 ? row[i - 1] : row[i + 1];
            }
        }
        return -1;
    }

    long known(int inn) {
        range(inn, 0, 7);
        int mask = 0;
        for (Road r : roads) {
            for (int i = 0; i < 2; i++) {
                mask |= r.inns[i] == inn ? 1 << r.inns[i + 1] : 0;
                mask |= r.inns[i + 1] == inn ? 1 << r.inns[i] : 0;
            }
        }
        return mask;
    }

    long send(int road, int body) {
        range(road, 0, roads.size() - 1);
        body(body);
        allowed(envelopes.size() < 12);
        save();
        int[] with = roads.get(road).keys;
        int nested = coverWith(with[0], coverWith(with[1], coverWith(with[2], body)));
        envelopes.add(new Envelope(roads.get(road), true, 0, nested));
        counts[0]++;
        return envelopes.size() - 1;
    }

    long answer(int hall, int body) {
        range(hall, 0, 3);
        body(body);
        allowed(roads.contains(letterRoads[hall]));
        allowed(envelopes.size() < 12);
        save();
        envelopes.add(new Envelope(letterRoads[hall], false, 4, body));
        counts[2]++;
        return envelopes.size() - 1;
    }

    long pass(int ticks) {
        if (ticks < 1 || ticks > 9) {
            throw new IllegalArgumentException();
        }
        save();
        int before = counts[1] + counts[3];
        for (int tick = 0; tick < ticks; tick++) {
            tick();
        }
        return counts[1] + counts[3] - before;
    }

    private void tick() {
        List<Envelope> left = new ArrayList<>();
        for (Envelope e : envelopes) {
            e.place += e.isOut ? 1 : -1;
            int[] with = e.road.keys;
            if (e.place == 4) {
                letters[e.road.hall] = e.body;
                letterRoads[e.road.hall] = e.road;
                counts[1]++;
            } else if (e.place == 0) {
                lastAnswer = uncoverWith(with[2], uncoverWith(with[1], uncoverWith(with[0], e.body)));
                counts[3]++;
            } else if (closed.contains(e.road.inns[e.place - 1])) {
                counts[4]++;
            } else {
                int key = with[e.place - 1];
                e.body = e.isOut ? uncoverWith(key, e.body) : coverWith(key, e.body);
                left.add(e);
            }
        }
        envelopes = left;
    }

    long envelopes() {
        return envelopes.size();
    }

    long envelope(int envelope, int what) {
        range(envelope, 0, envelopes.size() - 1);
        range(what, 0, 3);
        Envelope e = envelopes.get(envelope);
        return new int[] {roads.indexOf(e.road), e.place, e.body, e.isOut ? 0 : 1}[what];
    }

    long letter(int hall) {
        range(hall, 0, 3);
        return letters[hall] == null ? -1 : letters[hall];
    }

    long lastAnswer() {
        return lastAnswer == null ? -1 : lastAnswer;
    }

    long count(int what) {
        range(what, 0, 4);
        return counts[what];
    }

    double deliveredShare() {
        return counts[0] == 0 ? 1.0 : (double) counts[1] / (double) counts[0];
    }

    long lostIfClosed(int inn) {
        range(inn, 0, 7);
        Model copy = copy();
        copy.closed.add(inn);
        for (int tick = 0; tick < 4; tick++) {
            copy.tick();
        }
        return copy.counts[4] - counts[4];
    }

    long ticksTo(int envelope) {
        range(envelope, 0, envelopes.size() - 1);
        Model copy = copy();
        Envelope alone = copy.envelopes.get(envelope);
        copy.envelopes.clear();
        copy.envelopes.add(alone);
        int ticks = 0;
        while (!copy.envelopes.isEmpty()) {
            copy.tick();
            ticks++;
        }
        return copy.counts[4] > counts[4] ? -1 : ticks;
    }

    long leastWork(int place) {
        range(place, 1, 3);
        List<Integer> inns = new ArrayList<>();
        for (int inn = 0; inn < 8; inn++) {
            if (!closed.contains(inn)) {
                inns.add(inn);
            }
        }
        inns.sort(Comparator.comparing(this::work).thenComparing(Comparator.naturalOrder()));
        return inns.size() < place ? -1 : inns.get(place - 1);
    }

    private int work(int inn) {
        int work = 0;
        for (Road r : roads) {
            for (int on : r.inns) {
                work += on == inn ? 1 : 0;
            }
        }
        return work;
    }

    long append(int code) {
        if (code < 33 || code > 126) {
            throw new IllegalArgumentException();
        }
        allowed(buffer.length() < 60);
        buffer.append((char) code);
        return buffer.length();
    }

    long clearText() {
        int length = buffer.length();
        buffer.setLength(0);
        return length;
    }

    long firstError() {
        for (int length = 1; length <= buffer.length(); length++) {
            Matcher matcher = TEXT.matcher(buffer.substring(0, length));
            if (!matcher.matches() && !matcher.hitEnd()) {
                return length - 1;
            }
        }
        return buffer.length();
    }

    long run() {
        if (!TEXT.matcher(buffer).matches()) {
            throw new IllegalArgumentException();
        }
        Model copy = copy();
        int executed = 0;
        try {
            for (String order : buffer.toString().split(";")) {
                copy.execute(order);
                executed++;
            }
        } catch (RuntimeException e) {
            // The first order that throws ends the run.
        }
        save();
        take(copy);
        buffer.setLength(0);
        return executed;
    }

    private void execute(String order) {
        int number = order.charAt(1) - '0';
        switch (order.charAt(0)) {
            case 'r' -> lay(number, order.charAt(2) - '0', order.charAt(3) - '0', order.charAt(4) - '0');
            case 's' -> send(number, Integer.parseInt(order.substring(3)));
            case 'a' -> answer(number, Integer.parseInt(order.substring(3)));
            case 'c' -> setOpen(number, false);
            case 'o' -> setOpen(number, true);
            default -> pass(number);
        }
    }

    long undo() {
        allowed(!saved.isEmpty());
        take(saved.removeLast());
        return saved.size();
    }

    long savedStates() {
        return saved.size();
    }

    long digest() {
        List<Long> values = new ArrayList<>(List.of(roads(), envelopes(), lastAnswer()));
        for (int what = 0; what < 5; what++) {
            values.add(count(what));
        }
        for (int inn = 0; inn < 8; inn++) {
            values.addAll(List.of(isOpen(inn), key(inn), known(inn), lostIfClosed(inn)));
        }
        for (int road = 0; road < roads.size(); road++) {
            values.addAll(List.of(inn(road, 1), inn(road, 2), inn(road, 3), hall(road), stands(road)));
        }
        for (int e = 0; e < envelopes.size(); e++) {
            values.addAll(List.of(envelope(e, 0), envelope(e, 1), envelope(e, 2), envelope(e, 3), ticksTo(e)));
        }
        for (int hall = 0; hall < 4; hall++) {
            values.add(letter(hall));
        }
        values.addAll(List.of(leastWork(1), leastWork(2), leastWork(3)));
        long hash = 4726;
        for (long value : values) {
            hash = 31 * hash + value;
        }
        return hash;
    }
}
