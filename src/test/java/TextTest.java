/** Promises 8 to 11: the text, its fault, and its orders. */
public final class TextTest {
    private static final Check CHECK = new Check("TextTest");

    public static void main(String[] args) {
        type();
        faults();
        everySignAtEveryPlace();
        signsThatLookAlike();
        fullTexts();
        doAll();
        doAllOrNone();
        noneIsNoError();
        faultIsAnError();
        aText();
        CHECK.finish();
    }

    private static void due(String call, long got, long want) {
        CHECK.due(call, got, want);
    }

    private static void type() {
        TicketWindows x = new TicketWindows();
        due("9: clearText()", x.clearText(), 0);
        for (int i = 1; i <= 60; i++) {
            due("8: type", x.type((char) (i * 1111)), i);
        }
        due("8: type, the 61st", x.type('s'), TicketWindows.FULL);
        due("8: length", x.count(13), 60);
        due("9: clearText()", x.clearText(), 60);
        due("9: length", x.count(13), 0);
        due("8: type", x.type('\uffff'), 1);
        due("10: a sign far off", x.fault(), 0);
        due("8: no act", x.count(12), 0);
    }

    private static void fault(String text, int want) {
        TicketWindows x = new TicketWindows();
        Check.write(x, text);
        due("10: fault of " + text, x.fault(), want);
        due("11: doAll of " + text, want == -5 ? -5 : x.doAll(), want == -5 ? -5 : -100 - want);
    }

    private static void faults() {
        int none = TicketWindows.NONE;
        Object[][] texts = {
            {"", 0}, {" ", 0}, {";", 0}, {"5", 0}, {"S1", 0}, {"x", 0},
            {"s", 1}, {"s0", none}, {"s5", none}, {"s05", 2}, {"s00", 2}, {"s9", none},
            {"s99", none}, {"s100", none}, {"s599", none}, {"s600", 3}, {"s601", 3}, {"s60", none},
            {"s999", 3}, {"s5999", 4}, {"s1000", 4}, {"s-1", 1}, {"s ", 1}, {"s1 ", 2}, {"s1:", 2},
            {"c", 1}, {"c3", 1}, {"c9", 1}, {"c0", 2}, {"c2", 2}, {"c00:1", 2}, {"c12:1", 2},
            {"c0;", 2}, {"c0:", 3}, {"c0:0", none}, {"c2:599", none}, {"c2:600", 5}, {"c1:01", 4},
            {"c:1", 1}, {"c1::", 3}, {"c1:1:", 4}, {"c1,1", 2},
            {"d", 1}, {"d0", none}, {"d5", none}, {"d6", 1}, {"d05", 2}, {"d10", 2}, {"d1:", 2},
            {"t", 1}, {"t0", 1}, {"t1", none}, {"t9", none}, {"t99", none}, {"t100", 3},
            {"t999", 3}, {"t01", 1}, {"t1x", 2},
            {"s0;", 3}, {"s0;;", 3}, {"s0;x", 3}, {"s0;s", 4}, {"s0;s0", none}, {"s0 ;s0", 2},
            {"s0;d6", 4}, {"t99;d5;c2:0;s599", none}, {"t99;d5;c2:0;s599;", 17},
            {"t99;d5;c2:0;s599;t0", 18}, {"s1;c1;s1", 5}, {"d0d1", 2}, {"s1s1", 2},
            {"s\u0661", 1}, {"s1\u003b\u0073\u0031", none}, {"s1\u2603", 2},
        };
        for (Object[] row : texts) {
            fault((String) row[0], (Integer) row[1]);
        }
    }

    /** Each sign behind each beginning, compared with the reference. */
    private static void everySignAtEveryPlace() {
        String[] starts = {"", "s", "s0", "s5", "s6", "s59", "s60", "s599", "c", "c0", "c2", "c1:",
            "c1:0", "c1:5", "c1:60", "d", "d0", "d5", "t", "t1", "t9", "t99", "d0;", "d0;s"};
        TicketWindows x = new TicketWindows();
        for (String start : starts) {
            x = new TicketWindows();
            for (int sign = 0; sign < 128; sign++) {
                String text = start + (char) sign;
                Reference reference = new Reference();
                for (int i = 0; i < text.length(); i++) {
                    reference.type(text.charAt(i));
                }
                if (sign % 16 == 0) {
                    x = new TicketWindows();
                }
                Check.write(x, text);
                due("10: fault of " + start + " and sign " + sign, x.fault(), reference.fault());
            }
        }
    }

    /** A sign whose number is a signs' number and 128, 256 or more is another one. */
    private static void signsThatLookAlike() {
        String text = "s10;c1:0;d5;t9";
        for (int more : new int[] {128, 256, 512, 0x7f00, 0x8000, 0xff00}) {
            for (int i = 0; i < text.length(); i++) {
                char sign = (char) (text.charAt(i) + more);
                fault(text.substring(0, i) + sign + text.substring(i + 1), i);
            }
        }
        for (char sign : new char[] {0, 1, 127, 128, 255, 256, 0x7fff, 0x8000, 0xffff}) {
            fault("" + sign, 0);
            fault("s" + sign, 1);
            fault("s1" + sign, 2);
            fault("c1:" + sign, 3);
            fault("t9;" + sign, 3);
        }
    }

    private static void fullTexts() {
        String orders = "d0;".repeat(20);
        fault(orders, 60);
        fault(orders.substring(0, 59), TicketWindows.NONE);
        fault(orders.substring(0, 59) + "x", 59);
        fault("s599;".repeat(12), 60);
        fault("c1:599;".repeat(8) + "s599", TicketWindows.NONE);
        fault("c1:599;".repeat(8) + "c1:5", TicketWindows.NONE);
        for (char letter : new char[] {'s', 'c', 'd', 't'}) {
            fault("t10;".repeat(14) + "d1;" + letter, 60);
        }
        fault("t10;".repeat(14) + "d1;x", 59);
        fault("t10;".repeat(14) + "s1;;", 59);
        fault("t10;".repeat(14) + "s60;", 60);
        fault("t10;".repeat(14) + "s600", 59);
        fault("t10;".repeat(14) + "t100", 59);
        fault("t10;".repeat(14) + "c2:5", TicketWindows.NONE);
        fault("t10;".repeat(14) + "c2::", 59);
        fault("t10;".repeat(14) + "c2:", 59);
        fault("t10;".repeat(14) + "ss:1", 57);
        TicketWindows x = new TicketWindows();
        due("11: twenty orders", Check.order(x, "t1;".repeat(19) + "t1"), 20);
        due("11: ticks", x.count(0), 20);
        due("11: one state", x.count(12), 1);
        Check.write(x, "t1;".repeat(20));
        due("8: a sign more", x.type('t'), TicketWindows.FULL);
        due("11: doAll", x.doAll(), -160);
    }

    private static void doAll() {
        TicketWindows x = new TicketWindows();
        due("11: doAll", Check.order(x, "s49;s40;d0;c0:49;c1:49;c2:40;t4;c2:9"), 8);
        due("11: the text stays", x.count(13), 36);
        due("11: one act", x.count(12), 1);
        due("11: sold", x.drawOf(0, 1), 2);
        due("11: winning", x.drawOf(0, 3), 49);
        due("11: coins", x.count(2), 22);
        due("11: called back", x.count(3), 8);
        due("11: tick", x.count(0), 4);
        due("11: row", x.windowOf(2, 1), 9);
        due("11: again", x.doAll(), TicketWindows.NOT_POSSIBLE);
        due("12: undo()", x.undo(), 0);
        due("12: nothing is sold", x.count(4), 0);
        due("11: once more", x.doAll(), 8);
        due("11: coins", x.count(2), 22);
    }

    private static void doAllOrNone() {
        TicketWindows x = new TicketWindows();
        x.sell(7);
        due("11: s1 when drawn", Check.order(x, "s0;d0;t5;s1"), TicketWindows.NOT_POSSIBLE);
        due("11: none done", x.count(0) + x.count(4), 10);
        due("11: the lot", x.count(11), 1);
        due("11: no state", x.count(12), 1);
        due("11: d0 twice", Check.order(x, "d0;d0"), TicketWindows.NOT_POSSIBLE);
        due("11: not drawn", x.drawOf(0, 2), 0);
        String full = "c0:1;c0:1;c0:1;c0:1;c0:1;c0:1;c0:1;c0:1;c0:1";
        due("11: a full row", Check.order(x, full), TicketWindows.FULL);
        due("11: no row", x.count(10), 0);
        due("11: the first error counts", Check.order(x, "d1;d1;" + full),
                TicketWindows.NOT_POSSIBLE);
        due("11: after a tick there is room", Check.order(x, full.substring(0, 39) + ";t1;c0:1"),
                10);
        due("11: row", x.windowOf(0, 0), 8);
        due("12: undo()", x.undo(), 1);
        due("12: undo()", x.undo(), 0);
        due("12: all gone", x.count(4), 0);
    }

    private static void noneIsNoError() {
        TicketWindows x = new TicketWindows();
        due("11: s1 twice", Check.order(x, "s1;s1;s2"), 3);
        due("11: two sold", x.count(4), 20);
        due("11: all are sold", Check.order(x, "s1;s2"), 2);
        due("11: an act all the same", x.count(12), 2);
    }

    private static void faultIsAnError() {
        TicketWindows x = new TicketWindows();
        due("11: the empty text", x.doAll(), -100);
        due("11: a fault behind good orders", Check.order(x, "s1;s2;s600"), -109);
        due("11: none done", x.count(4), 0);
        due("11: no state", x.count(12), 0);
        due("11: ends too early", Check.order(x, "s1;"), -103);
    }

    /** The text is no part of a state. */
    private static void aText() {
        TicketWindows x = new TicketWindows();
        Check.write(x, "s1");
        x.keep();
        x.sell(1);
        x.type('0');
        due("12: undo()", x.undo(), 0);
        due("12: the text stays", x.count(13), 3);
        x.clearText();
        x.restore();
        due("14: the text stays", x.count(13), 0);
    }
}
