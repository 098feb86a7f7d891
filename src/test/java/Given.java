/** Objects that tests begin with; each is made by few calls, as an object serves 512. */
final class Given {

    private Given() {
    }

    static NestedEnvelopes fresh() {
        return new NestedEnvelopes();
    }

    /** The road 0 through the inns 3, 5 and 0 to the hall 2. */
    static NestedEnvelopes road() {
        NestedEnvelopes x = new NestedEnvelopes();
        x.lay(3, 5, 0, 2);
        return x;
    }

    /** The roads 0 to 5 through three inns that follow one another, to the halls 0, 1, 2, 3, 0, 1. */
    static NestedEnvelopes sixRoads() {
        NestedEnvelopes x = new NestedEnvelopes();
        for (int road = 0; road < 6; road++) {
            x.lay(road, road + 1, road + 2, road % 4);
        }
        return x;
    }

    /** The letters 0, 1, .. at the traveller of the road 0. */
    static NestedEnvelopes letters(int count) {
        NestedEnvelopes x = road();
        for (int letter = 0; letter < count; letter++) {
            x.send(0, letter);
        }
        return x;
    }

    static NestedEnvelopes twelve() {
        return letters(12);
    }

    /** The hall 2 has got the letter 42 on the road 0. */
    static NestedEnvelopes delivered() {
        NestedEnvelopes x = road();
        x.send(0, 42);
        x.pass(4);
        return x;
    }

    /** The answers 0, 1, .. at the hall 2, after the letter 42. */
    static NestedEnvelopes answers(int count) {
        NestedEnvelopes x = delivered();
        for (int answer = 0; answer < count; answer++) {
            x.answer(2, answer);
        }
        return x;
    }

    /** Two roads, a letter and an answer on the way, a closed inn, a new key, and a text. */
    static NestedEnvelopes busy() {
        NestedEnvelopes x = delivered();
        x.lay(1, 5, 6, 3);
        x.setKey(5, 77);
        x.send(1, 9999);
        x.answer(2, 8);
        x.setOpen(6, false);
        x.pass(1);
        write(x, "s0=5;t2");
        return x;
    }

    static NestedEnvelopes text(String text) {
        NestedEnvelopes x = new NestedEnvelopes();
        write(x, text);
        return x;
    }

    static void write(NestedEnvelopes x, String text) {
        for (int i = 0; i < text.length(); i++) {
            x.append(text.charAt(i));
        }
    }

    /** The full buffer: twenty orders, and a ";" behind the last one. */
    static String sixtyCharacters() {
        return "t1;".repeat(20);
    }
}
