/** Promises 1 to 7: a new object, and the acts on tickets, draws, customers and settings. */
public final class OfficeTest {
    private static final Check CHECK = new Check("OfficeTest");
    private static final int[] WRONG = {-1, Integer.MIN_VALUE, Integer.MAX_VALUE};

    public static void main(String[] args) {
        newObject();
        sell();
        sellAWholeDraw();
        draw();
        classesOfAllTickets();
        come();
        comeWhileTheWindowWaits();
        leave();
        leaveAsideOfTheWaitingOne();
        pass();
        passToTheLastTick();
        set();
        eachSettingHasItsRange();
        errorsChangeNothing();
        CHECK.finish();
    }

    private static void due(String call, long got, long want) {
        CHECK.due(call, got, want);
    }

    private static void newObject() {
        TicketWindows x = new TicketWindows();
        int[] totals = {0, 0, 0, 0, 0, 0, 0, 0, 0, 0, 0, 1, 0, 0, 0, 3, 12};
        for (int what = 0; what < totals.length; what++) {
            due("1: count(" + what + ")", x.count(what), totals[what]);
        }
        int[] ofWindow = {0, -5, 0, -5, 0, 0, 0, 0, 0, 0};
        for (int window = 0; window < 3; window++) {
            for (int what = 0; what < ofWindow.length; what++) {
                due("1: windowOf", x.windowOf(window, what), ofWindow[what]);
            }
        }
        int[] ofDraw = {0, 0, 0, -5, 0, 0, 0, 0};
        for (int draw = 0; draw < 6; draw++) {
            for (int what = 0; what < ofDraw.length; what++) {
                due("1: drawOf", x.drawOf(draw, what), ofDraw[what]);
            }
        }
        for (int what = 0; what < 9; what++) {
            due("1: ticketOf(0, " + what + ")", x.ticketOf(0, what), 0);
            due("1: ticketOf(599, " + what + ")", x.ticketOf(599, what), 0);
        }
        due("1: undo()", x.undo(), TicketWindows.NONE);
        due("1: restore()", x.restore(), TicketWindows.NONE);
        x.sell(0);
        due("1: another object stands alone", new TicketWindows().ticketOf(0, 0), 0);
    }

    private static void sell() {
        TicketWindows x = new TicketWindows();
        due("2: sell(0)", x.sell(0), 10);
        due("2: sell(0) again", x.sell(0), TicketWindows.NONE);
        due("2: sell(99)", x.sell(99), 20);
        due("2: sell(100), of the next draw", x.sell(100), 10);
        due("2: sell(599)", x.sell(599), 10);
        due("2: sell(600)", x.sell(600), TicketWindows.UNKNOWN);
        for (int wrong : WRONG) {
            due("2: sell(" + wrong + ")", x.sell(wrong), TicketWindows.UNKNOWN);
        }
        due("2: states", x.count(12), 4);
        x.draw(0);
        due("2: sell(1) when drawn", x.sell(1), TicketWindows.NOT_POSSIBLE);
        due("2: sell(0) when drawn and sold", x.sell(0), TicketWindows.NOT_POSSIBLE);
        due("2: sell(101) of another draw", x.sell(101), 20);
        due("2: coins in all pools", x.count(4), 50);
    }

    private static void sellAWholeDraw() {
        TicketWindows x = new TicketWindows();
        for (int i = 0; i < 100; i++) {
            due("2: sell(" + (300 + i) + ")", x.sell(300 + i), 10 * i + 10);
        }
        due("3: draw(3)", x.draw(3), 49);
        due("3: class 1", x.ticketOf(349, 2), 400);
        due("3: class 2, 300 by 9", x.ticketOf(340, 2), 33);
        due("3: class 3, 200 by 9", x.ticketOf(309, 2), 22);
        due("3: no class", x.ticketOf(350, 2), 0);
        due("3: all prizes", x.drawOf(3, 7), 400 + 9 * 33 + 9 * 22);
        due("3: the pool as sold", x.drawOf(3, 0), 1000);
    }

    private static void draw() {
        TicketWindows x = new TicketWindows();
        due("3: draw(6)", x.draw(6), TicketWindows.UNKNOWN);
        for (int wrong : WRONG) {
            due("3: draw(" + wrong + ")", x.draw(wrong), TicketWindows.UNKNOWN);
        }
        due("3: the lot stays", x.count(11), 1);
        due("3: draw(5)", x.draw(5), 49);
        due("3: lot", x.count(11), 149);
        due("3: draw(5) again", x.draw(5), TicketWindows.NOT_POSSIBLE);
        due("3: lot", x.count(11), 149);
        due("3: draw(0)", x.draw(0), 49);
        due("3: lot", x.count(11), 11249);
        due("3: draw(1)", x.draw(1), 5);
        due("3: lot, the first one reduced", x.count(11), 57305);
        due("3: draw(2)", x.draw(2), 44);
        due("3: draw(3)", x.draw(3), 83);
        due("3: states", x.count(12), 4);
    }

    private static void classesOfAllTickets() {
        TicketWindows x = new TicketWindows();
        int[] order = {1, 2, 0, 3, 4, 5};
        int[] winning = {49, 49, 5, 44, 83, 19};
        for (int draw : order) {
            for (int number : new int[] {0, 3, 5, 9, 13, 73, 75, 80, 83, 88, 89, 93, 95}) {
                x.sell(100 * draw + number);
            }
        }
        for (int i = 0; i < 6; i++) {
            due("3: draw(" + order[i] + ")", x.draw(order[i]), winning[i]);
        }
        for (int ticket = 0; ticket < 100; ticket++) {
            boolean sold = x.ticketOf(400 + ticket, 0) == 1;
            int want = ticket == 83 ? 1 : ticket / 10 == 8 ? 2 : ticket % 10 == 3 ? 3 : 0;
            due("3: class of " + (400 + ticket), x.ticketOf(400 + ticket, 1), sold ? want : 0);
        }
        due("3: class 2 of draw 0 has the tens 0", x.ticketOf(0, 1), 2);
        x.come(0, 0);
        due("6: ticket 0 is paid", x.pass(1), x.ticketOf(0, 2));
        due("6: once", x.ticketOf(0, 3), 1);
        due("17: its mark", x.windowOf(0, 5), 1);
        due("19: coins", x.paid(true), x.ticketOf(0, 2));
    }

    private static void come() {
        TicketWindows x = new TicketWindows();
        due("4: come(3, 0)", x.come(3, 0), TicketWindows.UNKNOWN);
        due("4: come(0, 600)", x.come(0, 600), TicketWindows.UNKNOWN);
        for (int wrong : WRONG) {
            due("4: come(" + wrong + ", 0)", x.come(wrong, 0), TicketWindows.UNKNOWN);
            due("4: come(0, " + wrong + ")", x.come(0, wrong), TicketWindows.UNKNOWN);
        }
        due("4: states", x.count(12), 0);
        for (int i = 1; i <= 8; i++) {
            due("4: come(2, 599)", x.come(2, 599), i);
        }
        due("4: come(2, 1), the ninth", x.come(2, 1), TicketWindows.FULL);
        due("4: come(2, 600) before a full row", x.come(2, 600), TicketWindows.UNKNOWN);
        due("4: another row", x.come(1, 0), 1);
        due("4: all rows", x.count(10), 9);
        due("4: states", x.count(12), 4);
    }

    private static void comeWhileTheWindowWaits() {
        TicketWindows x = new TicketWindows();
        x.sell(49);
        x.draw(0);
        x.set(0, 1);
        x.come(0, 49);
        x.pass(1);
        due("4: the window waits", x.windowOf(0, 3), 49);
        due("4: come(0, 7), the waiting one aside", x.come(0, 7), 1);
        due("4: customers who wait with 49", x.ticketOf(49, 7), 0);
        due("4: customers in all rows", x.count(10), 1);
    }

    private static void leave() {
        TicketWindows x = new TicketWindows();
        due("5: leave(600)", x.leave(600), TicketWindows.UNKNOWN);
        for (int wrong : WRONG) {
            due("5: leave(" + wrong + ")", x.leave(wrong), TicketWindows.UNKNOWN);
        }
        due("5: leave(0)", x.leave(0), TicketWindows.NONE);
        int[] row = {1, 2, 1, 3, 1};
        for (int ticket : row) {
            x.come(0, ticket);
        }
        x.come(2, 1);
        x.come(2, 4);
        due("5: leave(1)", x.leave(1), 4);
        due("5: leave(1) again", x.leave(1), TicketWindows.NONE);
        due("5: row 0", x.windowOf(0, 0), 2);
        due("5: first of row 0", x.windowOf(0, 1), 2);
        due("5: row 2", x.windowOf(2, 0), 1);
        due("5: first of row 2", x.windowOf(2, 1), 4);
        due("5: leave(2)", x.leave(2), 1);
        due("5: the order stays", x.windowOf(0, 1), 3);
        due("5: none was sent away", x.windowOf(0, 8), 0);
        due("5: undo()", x.undo(), 3);
        due("5: back in the row", x.windowOf(0, 1), 2);
    }

    private static void leaveAsideOfTheWaitingOne() {
        TicketWindows x = new TicketWindows();
        x.sell(49);
        x.draw(0);
        x.set(0, 1);
        x.come(0, 49);
        x.come(0, 49);
        x.pass(1);
        due("5: leave(49), the waiting one aside", x.leave(49), 1);
        due("5: it waits still", x.windowOf(0, 2), 1);
    }

    private static void pass() {
        TicketWindows x = new TicketWindows();
        int[] wrong = {0, 100, -1, Integer.MIN_VALUE, Integer.MAX_VALUE};
        for (int ticks : wrong) {
            due("6: pass(" + ticks + ")", x.pass(ticks), TicketWindows.BAD_VALUE);
        }
        due("6: states", x.count(12), 0);
        due("6: pass(1)", x.pass(1), 0);
        due("6: states", x.count(12), 1);
        due("6: pass(99)", x.pass(99), 0);
        due("6: tick", x.count(0), 100);
        x.sell(49);
        x.sell(40);
        x.draw(0);
        x.come(0, 49);
        x.come(1, 49);
        x.come(1, 40);
        due("6: pass(1), twice class 1", x.pass(1), 16);
        due("6: pass(3), class 2, one called back", x.pass(3), 6);
        due("6: called back", x.count(3), 8);
        due("6: pass(9)", x.pass(9), 0);
    }

    private static void passToTheLastTick() {
        TicketWindows x = new TicketWindows();
        for (int i = 0; i < 100; i++) {
            due("6: pass(99)", x.pass(99), 0);
        }
        due("6: tick", x.count(0), 9900);
        x.pass(1);
        due("6: pass(99) to 10000", x.pass(99), TicketWindows.FULL);
        due("6: tick", x.count(0), 9901);
        due("6: pass(98) to 9999", x.pass(98), 0);
        due("6: tick", x.count(0), 9999);
        due("6: pass(1)", x.pass(1), TicketWindows.FULL);
        due("6: pass(100) is a bad value first", x.pass(100), TicketWindows.BAD_VALUE);
        x.sell(49);
        x.draw(0);
        x.come(0, 49);
        due("21: ifRule goes on behind the last tick", x.ifRule(0, 99, 0), 1);
        due("22: bestRule too", x.bestRule(), 0);
        due("6: in a text", Check.order(x, "t1"), TicketWindows.FULL);
    }

    private static void set() {
        TicketWindows x = new TicketWindows();
        due("7: set(0, 0)", x.set(0, 0), TicketWindows.NONE);
        due("7: set(0, 2)", x.set(0, 2), 0);
        due("7: set(0, 1)", x.set(0, 1), 2);
        due("7: set(1, 9)", x.set(1, 9), 3);
        due("7: set(1, 9)", x.set(1, 9), TicketWindows.NONE);
        due("7: set(2, 1)", x.set(2, 1), 12);
        due("7: the settings", x.count(14) * 10000 + x.count(15) * 100 + x.count(16), 10901);
        due("7: states", x.count(12), 4);
        due("7: undo()", x.undo(), 3);
        due("7: setting 2 is back", x.count(16), 12);
    }

    private static void eachSettingHasItsRange() {
        int[] least = {0, 1, 1};
        int[] most = {2, 9, 20};
        TicketWindows x = new TicketWindows();
        for (int which = 0; which < 3; which++) {
            for (int value = -1; value <= 22; value++) {
                boolean good = value >= least[which] && value <= most[which];
                int before = x.count(14 + which);
                int want = good ? value == before ? -5 : before : -2;
                due("7: set(" + which + ", " + value + ")", x.set(which, value), want);
                due("7: setting " + which, x.count(14 + which), good ? value : before);
            }
        }
        for (int wrong : new int[] {3, -1, Integer.MIN_VALUE, Integer.MAX_VALUE}) {
            due("7: set(" + wrong + ", 1)", x.set(wrong, 1), TicketWindows.BAD_VALUE);
            due("7: set(0, " + wrong + ")", x.set(0, wrong), TicketWindows.BAD_VALUE);
        }
    }

    private static void errorsChangeNothing() {
        TicketWindows x = new TicketWindows();
        x.sell(5);
        x.sell(600);
        x.sell(5);
        x.draw(6);
        x.come(0, -1);
        x.leave(5);
        x.pass(0);
        x.set(0, 0);
        x.set(0, 3);
        x.restore();
        due("2 to 14: no error is a state", x.count(12), 1);
        due("12: undo()", x.undo(), 0);
        due("12: undo()", x.undo(), TicketWindows.NONE);
    }
}
