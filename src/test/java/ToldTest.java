/** Promises 15 to 19: what is told of tickets, draws, windows and the office. */
public final class ToldTest {
    private static final Check CHECK = new Check("ToldTest");
    private static final int[] WRONG = {-1, Integer.MIN_VALUE, Integer.MAX_VALUE};

    public static void main(String[] args) {
        wrongArguments();
        ticketOf();
        drawOf();
        windowOf();
        count();
        paid();
        CHECK.finish();
    }

    private static void due(String call, long got, long want) {
        CHECK.due(call, got, want);
    }

    private static void wrongArguments() {
        TicketWindows x = new TicketWindows();
        for (int wrong : WRONG) {
            due("15: ticketOf(" + wrong + ", 0)", x.ticketOf(wrong, 0), TicketWindows.UNKNOWN);
            due("15: ticketOf(0, " + wrong + ")", x.ticketOf(0, wrong), TicketWindows.BAD_VALUE);
            due("15: both", x.ticketOf(wrong, wrong), TicketWindows.UNKNOWN);
            due("16: drawOf(" + wrong + ", 0)", x.drawOf(wrong, 0), TicketWindows.UNKNOWN);
            due("16: drawOf(0, " + wrong + ")", x.drawOf(0, wrong), TicketWindows.BAD_VALUE);
            due("16: both", x.drawOf(wrong, wrong), TicketWindows.UNKNOWN);
            due("17: windowOf(" + wrong + ", 0)", x.windowOf(wrong, 0), TicketWindows.UNKNOWN);
            due("17: windowOf(0, " + wrong + ")", x.windowOf(0, wrong), TicketWindows.BAD_VALUE);
            due("17: both", x.windowOf(wrong, wrong), TicketWindows.UNKNOWN);
            due("17: both, marks", x.windowOf(wrong, 5), TicketWindows.UNKNOWN);
            due("18: count(" + wrong + ")", x.count(wrong), TicketWindows.BAD_VALUE);
        }
        due("15: ticketOf(600, 9)", x.ticketOf(600, 9), TicketWindows.UNKNOWN);
        due("15: ticketOf(599, 9)", x.ticketOf(599, 9), TicketWindows.BAD_VALUE);
        due("16: drawOf(6, 8)", x.drawOf(6, 8), TicketWindows.UNKNOWN);
        due("16: drawOf(5, 8)", x.drawOf(5, 8), TicketWindows.BAD_VALUE);
        due("17: windowOf(3, 10)", x.windowOf(3, 10), TicketWindows.UNKNOWN);
        due("17: windowOf(2, 10)", x.windowOf(2, 10), TicketWindows.BAD_VALUE);
        due("18: count(17)", x.count(17), TicketWindows.BAD_VALUE);
    }

    private static void told(TicketWindows x, int ticket, int... want) {
        for (int what = 0; what < 9; what++) {
            due("15: ticketOf(" + ticket + ", " + what + ")", x.ticketOf(ticket, what), want[what]);
        }
    }

    private static void ticketOf() {
        TicketWindows x = new TicketWindows();
        x.sell(249);
        x.sell(240);
        x.sell(239);
        told(x, 249, 1, 0, 0, 0, 0, 0, 0, 0, 0);
        told(x, 248, 0, 0, 0, 0, 0, 0, 0, 0, 0);
        x.draw(2);
        told(x, 249, 1, 1, 12, 0, 0, 0, 0, 0, 0);
        told(x, 240, 1, 2, 9, 0, 0, 0, 0, 0, 0);
        told(x, 239, 1, 3, 6, 0, 0, 0, 0, 0, 0);
        told(x, 248, 0, 0, 0, 0, 0, 0, 0, 0, 0);
        Check.order(x, "c0:249;c0:240;c1:240;c0:249;c2:249;c2:249");
        told(x, 249, 1, 1, 12, 0, 0, 0, 0, 4, 0);
        Check.order(x, "t1");
        told(x, 249, 1, 1, 12, 2, 0, 5, 0, 2, 0);
        told(x, 240, 1, 2, 9, 1, 0, 2, 0, 1, 0);
        x.pass(1);
        told(x, 240, 1, 2, 9, 2, 0, 3, 0, 0, 0);
        x.pass(2);
        told(x, 249, 1, 1, 12, 2, 1, 7, 0, 0, 0);
        told(x, 240, 1, 2, 9, 2, 0, 7, 0, 0, 1);
        x.pass(1);
        told(x, 240, 1, 2, 9, 2, 1, 7, 0, 0, 0);
        x.set(0, 1);
        x.set(1, 1);
        x.come(1, 239);
        x.pass(2);
        told(x, 239, 1, 3, 6, 0, 0, 0, 1, 0, 0);
        x.pass(1);
        told(x, 239, 1, 3, 6, 1, 0, 2, 1, 0, 0);
    }

    private static void drawOf() {
        TicketWindows x = new TicketWindows();
        for (int ticket : new int[] {349, 341, 342, 343, 319, 329, 339, 359, 300}) {
            x.sell(ticket);
        }
        int[] before = {90, 9, 0, -5, 0, 0, 0, 0};
        int[] after = {90, 9, 1, 49, 1, 3, 4, 36 + 3 * 9 + 4 * 4};
        for (int what = 0; what < 8; what++) {
            due("16: drawOf(3, " + what + ")", x.drawOf(3, what), before[what]);
        }
        x.draw(3);
        for (int what = 0; what < 8; what++) {
            due("16: drawOf(3, " + what + ") drawn", x.drawOf(3, what), after[what]);
        }
        due("15: 27 by 3", x.ticketOf(342, 2), 9);
        due("15: 18 by 4, rounded down", x.ticketOf(359, 2), 4);
        x.sell(448);
        x.draw(4);
        int[] few = {10, 1, 1, 49, 0, 1, 0, 3};
        for (int what = 0; what < 8; what++) {
            due("16: drawOf(4, " + what + ")", x.drawOf(4, what), few[what]);
        }
        x.draw(5);
        int[] none = {0, 0, 1, 5, 0, 0, 0, 0};
        for (int what = 0; what < 8; what++) {
            due("16: drawOf(5, " + what + ")", x.drawOf(5, what), none[what]);
        }
    }

    private static void windowTold(TicketWindows x, int window, int... want) {
        for (int what = 0; what < 10; what++) {
            due("17: windowOf(" + window + ", " + what + ")", x.windowOf(window, what), want[what]);
        }
    }

    private static void windowOf() {
        TicketWindows x = new TicketWindows();
        Check.order(x, "s49;s40;s0;d0;c0:49;c2:49;c0:0;c0:40");
        windowTold(x, 0, 3, 49, 0, -5, 0, 0, 0, 0, 0, 0);
        x.pass(2);
        windowTold(x, 0, 1, 40, 0, -5, 0, 1, 12, 1, 1, 3);
        windowTold(x, 1, 0, -5, 0, -5, 0, 0, 0, 0, 0, 0);
        windowTold(x, 2, 0, -5, 0, -5, 0, 1, 12, 1, 0, 0);
        x.set(0, 1);
        x.pass(2);
        windowTold(x, 0, 0, -5, 1, 40, 2, 1, 12, 1, 1, 3);
        windowTold(x, 1, 0, -5, 0, -5, 0, 1, 0, 0, 0, 0);
        windowTold(x, 2, 0, -5, 0, -5, 0, 1, 12, 1, 0, 0);
        due("18: called back", x.count(6), 1);
        x.come(0, 599);
        x.set(2, 3);
        x.pass(2);
        windowTold(x, 0, 0, -5, 0, -5, 0, 1, 12, 1, 3, 1);
        x.undo();
        x.pass(1);
        windowTold(x, 0, 1, 599, 1, 40, 3, 1, 12, 1, 1, 3);
    }

    private static void counted(TicketWindows x, int... want) {
        for (int what = 0; what < 17; what++) {
            due("18: count(" + what + ")", x.count(what), want[what]);
        }
    }

    private static void count() {
        TicketWindows x = new TicketWindows();
        Check.order(x, "s49;s40;d0;c0:49;c1:49;c2:40;c1:40;c2:9");
        counted(x, 0, 0, 0, 0, 20, 0, 0, 0, 0, 0, 5, 149, 1, 39, 0, 3, 12);
        x.pass(1);
        counted(x, 1, 6, 22, 0, 20, 3, 0, 0, 0, 1, 2, 149, 2, 39, 0, 3, 12);
        x.pass(1);
        counted(x, 2, 8, 28, 0, 20, 4, 0, 0, 0, 2, 0, 149, 3, 39, 0, 3, 12);
        x.pass(2);
        counted(x, 4, 2, 28, 8, 20, 4, 1, 2, 1, 2, 0, 149, 4, 39, 0, 3, 12);
        x.pass(1);
        counted(x, 5, 0, 28, 14, 20, 4, 2, 2, 0, 2, 0, 149, 4, 39, 0, 3, 12);
        x.set(0, 2);
        x.set(1, 9);
        x.set(2, 20);
        x.clearText();
        counted(x, 5, 0, 28, 14, 20, 4, 2, 2, 0, 2, 0, 149, 4, 0, 2, 9, 20);
    }

    private static void paid() {
        TicketWindows x = new TicketWindows();
        Check.order(x, "s49;s40;d0;c0:49;c1:49;c2:40;c1:40;c0:40");
        int[] want = {0, 22, 34, 34, 26, 14, 14};
        for (int coins : want) {
            due("19: paid(true)", x.paid(true), coins);
            due("19: paid(false)", x.paid(false), coins);
            x.pass(1);
        }
    }
}
