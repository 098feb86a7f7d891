/** The document's Terms on the order text: what each order is made of, character by character. */
final class OrderTermsTest {

    private static final int FIRST_CODE = 33;
    private static final int LAST_CODE = 126;
    private static final String DIGITS = "0123456789";
    private static final String SIGNS = "rsacot";

    private OrderTermsTest() {
    }

    /** Tries each character code behind the text; only these may stand there. */
    private static void onlyThese(String text, String allowed) {
        for (int code = FIRST_CODE; code <= LAST_CODE; code++) {
            NestedEnvelopes x = Given.text(text);
            x.append(code);
            int due = text.length() + (allowed.indexOf(code) >= 0 ? 1 : 0);
            Check.same("firstError() of " + text + (char) code, x.firstError(), due);
        }
    }

    private static void complete(String text, boolean due) {
        NestedEnvelopes x = Given.text(text);
        boolean got = true;
        try {
            x.run();
        } catch (IllegalArgumentException e) {
            got = false;
        }
        Check.same(text + " is complete", got, due);
        Check.same("clearText() of " + text, x.clearText(), due ? 0 : text.length());
    }

    private static void onlyTheWhole(String order) {
        for (int length = 0; length < order.length(); length++) {
            complete(order.substring(0, length), false);
        }
        complete(order, true);
    }

    // ---- the buffer

    @Says("The buffer contains at most 60 characters")
    static void terms_sixtyCharacters() {
        String full = Given.sixtyCharacters();
        Check.same("a sixtieth append()", Given.text(full.substring(0, 59)).append(';'), 60);
        Check.state(() -> Given.text(full), "a sixty-first append()", x -> x.append('t'));
        NestedEnvelopes x = Given.text(full);
        x.clearText();
        Check.same("append() after clearText()", x.append('t'), 1);
        NestedEnvelopes y = Given.text(full.substring(0, 59));
        y.run();
        Check.same("append() after run()", y.append('t'), 1);
    }

    @Says("and is empty at first.")
    static void terms_emptyAtFirst() {
        Check.same("firstError()", Given.fresh().firstError(), 0);
        Check.same("append('t')", Given.fresh().append('t'), 1);
        Check.same("clearText()", Given.fresh().clearText(), 0);
        Check.argument(Given::fresh, "run()", x -> x.run());
    }

    // ---- the text

    @Says("An order text is one or more orders with \";\" between them:")
    static void terms_ordersWithSemicolons() {
        onlyThese("", SIGNS);
        for (String order : new String[] {"r0123", "s5=0", "s0=9999", "a3=0", "a0=1234", "c7", "o0", "t9"}) {
            onlyThese(order + ";", SIGNS);
            complete(order, true);
            complete(order + ";", false);
            complete(order + ";t1", true);
            complete(order + ";;t1", false);
            complete(";" + order, false);
            complete("t1;" + order + ";t1", true);
        }
        complete("", false);
        complete("t1t1", false);
        complete("t1,t1", false);
    }

    @Says("An order text is one or more orders with \";\" between them:")
    static void terms_asManyOrdersAsFit() {
        String full = Given.sixtyCharacters();
        complete(full.substring(0, 59), true);
        complete(full, false);
        complete(full.substring(0, 54) + "r0123", true);
        complete(full.substring(0, 54) + "s0=123", true);
        complete(full.substring(0, 57) + "r01", false);
    }

    @Says("\"r\", three different digits from 0 to 7 and a digit from 0 to 3: like lay() with these inns and this"
        + " hall;")
    static void terms_orderToLay() {
        onlyThese("r", "01234567");
        for (int first = 0; first < 8; first++) {
            onlyThese("r" + first, "01234567".replace("" + first, ""));
            int second = (first + 3) % 8;
            String left = "01234567".replace("" + first, "").replace("" + second, "");
            onlyThese("r" + first + second, left);
            onlyThese("r" + first + second + left.charAt(0), "0123");
            onlyThese("r" + first + second + left.charAt(5), "0123");
        }
        onlyThese("r0120", ";");
        onlyThese("r7653", ";");
        onlyTheWhole("r7053");
        NestedEnvelopes x = Given.text("r7053");
        Check.same("run()", x.run(), 1);
        Check.same("inn(0, 1)", x.inn(0, 1), 7);
        Check.same("inn(0, 2)", x.inn(0, 2), 0);
        Check.same("inn(0, 3)", x.inn(0, 3), 5);
        Check.same("hall(0)", x.hall(0), 3);
    }

    /** Bodies behind this beginning: 0 to 9999, without leading zeros. */
    private static void bodiesBehind(String beginning) {
        onlyThese(beginning, DIGITS);
        onlyThese(beginning + "0", ";");
        for (String body : new String[] {"1", "9", "10", "99", "100", "999"}) {
            onlyThese(beginning + body, DIGITS + ";");
        }
        onlyThese(beginning + "1000", ";");
        onlyThese(beginning + "9999", ";");
        complete(beginning, false);
        for (String body : new String[] {"0", "1", "9", "10", "99", "100", "999", "1000", "9999"}) {
            complete(beginning + body, true);
        }
        for (String body : new String[] {"00", "01", "000", "0000", "0999", "10000", "99999", "-1", "+1", "1=", "=1"}) {
            complete(beginning + body, false);
        }
    }

    @Says("\"s\", the number of a road (a digit from 0 to 5), \"=\", and a body without leading zeros: like send();")
    static void terms_orderToSend() {
        onlyThese("s", "012345");
        onlyThese("s0", "=");
        onlyThese("s5", "=");
        bodiesBehind("s0=");
        bodiesBehind("s5=");
        complete("s", false);
        complete("s0", false);
        for (int body : new int[] {0, 7, 10, 90, 100, 1000, 1234, 9999}) {
            NestedEnvelopes x = Given.sixRoads();
            Given.write(x, "s5=" + body);
            Check.same("run()", x.run(), 1);
            Check.same("its road", x.envelope(0, 0), 5);
            NestedEnvelopes y = Given.sixRoads();
            y.send(5, body);
            Check.same("its body for " + body, x.envelope(0, 2), y.envelope(0, 2));
            Check.same("its direction", x.envelope(0, 3), 0);
        }
    }

    // The document says "without leading zeros" only at "s"; "a body" is read in the same way here.
    @Says("\"a\", a hall (a digit from 0 to 3), \"=\", and a body: like answer();")
    static void terms_orderToAnswer() {
        onlyThese("a", "0123");
        onlyThese("a0", "=");
        onlyThese("a3", "=");
        bodiesBehind("a0=");
        bodiesBehind("a3=");
        complete("a", false);
        complete("a0", false);
        for (int body : new int[] {0, 7, 10, 90, 100, 1000, 1234, 9999}) {
            NestedEnvelopes x = Given.delivered();
            Given.write(x, "a2=" + body);
            Check.same("run()", x.run(), 1);
            Check.envelope(x, 0, 0, 4, body, 1);
        }
    }

    @Says("\"c\" or \"o\" and an inn (a digit from 0 to 7): like setOpen() with false or with true;")
    static void terms_orderToCloseOrOpen() {
        for (String sign : new String[] {"c", "o"}) {
            onlyThese(sign, "01234567");
            onlyThese(sign + "0", ";");
            onlyThese(sign + "7", ";");
            onlyTheWhole(sign + "0");
        }
        for (int inn = 0; inn < 8; inn++) {
            NestedEnvelopes x = Given.text("c" + inn);
            Check.same("run() of c" + inn, x.run(), 1);
            for (int other = 0; other < 8; other++) {
                Check.same("isOpen(" + other + ") after c" + inn, x.isOpen(other), other != inn);
            }
            Given.write(x, "o" + inn);
            Check.same("run() of o" + inn, x.run(), 1);
            Check.same("isOpen(" + inn + ") after o" + inn, x.isOpen(inn), true);
        }
    }

    @Says("\"t\" and a digit from 1 to 9: like pass().")
    static void terms_orderToPass() {
        onlyThese("t", "123456789");
        onlyThese("t1", ";");
        onlyThese("t9", ";");
        onlyTheWhole("t1");
        for (int ticks = 1; ticks < 10; ticks++) {
            NestedEnvelopes x = Given.letters(1);
            Given.write(x, "t" + ticks);
            Check.same("run() of t" + ticks, x.run(), 1);
            Check.same("envelopes() after t" + ticks, x.envelopes(), ticks < 4 ? 1 : 0);
            if (ticks < 4) {
                Check.same("the place after t" + ticks, x.envelope(0, 1), ticks);
            }
        }
    }

    // ---- errors

    private static void firstError(String text, int due) {
        Check.same("firstError() of " + text, Given.text(text).firstError(), due);
    }

    @Says("A character of the buffer is an error if no order text, however long, begins with the characters before it"
        + " and this character.")
    static void terms_errorsHaveNoTextThatGoesOn() {
        firstError("x", 0);
        firstError("xr", 0);
        firstError("t1;x;t1", 3);
        firstError("t1;t0;t1", 4);
        firstError("t1;t2;t3", 8);
    }

    @Says("A character of the buffer is an error if no order text, however long, begins with the characters before it"
        + " and this character.")
    static void terms_aTextMayBeLongerThanTheBuffer() {
        String most = Given.sixtyCharacters().substring(0, 57);
        for (String last : new String[] {"t1;", "r01", "s0=", "a3=", "t1"}) {
            firstError(most + last, 57 + last.length());
        }
        firstError(most + "t1r", 59);
        firstError(most + "r00", 59);
        firstError(most + "tt1", 58);
        firstError(most + ";t1", 57);
    }
}
