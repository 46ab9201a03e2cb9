/**
 * Terms, TICKETS, DRAWS, and what promises 2, 3, 15, 16 and 19 say of them: a test for each sentence
 * that names an edge. The sentence stands above its test.
 */
public final class DrawEdgesTest {
    private static final Check CHECK = new Check("DrawEdgesTest");
    private static final int UNKNOWN = TicketWindows.UNKNOWN;
    private static final int BAD_VALUE = TicketWindows.BAD_VALUE;
    private static final int NOT_POSSIBLE = TicketWindows.NOT_POSSIBLE;
    private static final int NONE = TicketWindows.NONE;

    public static void main(String[] args) {
        firstAndLastTicketOfEachDraw();
        soldAsLongAsNotDrawn();
        soldOnce();
        lotOfEachDraw();
        lotComesBack();
        winningIsLotModuloHundred();
        winningOneIsClassOneAlone();
        tensBeforeOnes();
        otherwiseNothing();
        unsoldOnesWinNothing();
        sharesRoundedDown();
        emptyDraw();
        oneTicketOfEachClass();
        firstTenOfEachDraw();
        lastTicketOfAll();
        firstTicketOfAll();
        everyWrongTicket();
        everyWrongDraw();
        everyWrongWhat();
        ticketsAndWindowsTellTheSame();
        CHECK.finish();
    }

    private static void due(String call, long got, long want) {
        CHECK.due(call, got, want);
    }

    /** "There are 6 draws, 0 to 5, each with tickets 0 to 99; the ticket n of the draw d is the
     *  number 100 * d + n." */
    private static void firstAndLastTicketOfEachDraw() {
        TicketWindows x = new TicketWindows();
        for (int draw = 0; draw < 6; draw++) {
            due("sell the first of " + draw, x.sell(100 * draw), 10);
            due("sell the last of " + draw, x.sell(100 * draw + 99), 20);
        }
        for (int draw = 0; draw < 6; draw++) {
            due("pool of " + draw, x.drawOf(draw, 0), 20);
            due("sold of " + draw, x.drawOf(draw, 1), 2);
        }
        due("all pools", x.count(4), 120);
        for (int draw = 0; draw < 6; draw++) {
            x.draw(draw);
            due("the first of " + draw + " is drawn", x.sell(100 * draw + 1), NOT_POSSIBLE);
            due("the last of " + draw + " is drawn", x.sell(100 * draw + 98), NOT_POSSIBLE);
            if (draw < 5) {
                due("the next draw is not", x.sell(100 * draw + 101), 30);
                due("nor at its end", x.sell(100 * draw + 198), 40);
            }
        }
    }

    /** "it can be sold as long as its draw is not drawn" */
    private static void soldAsLongAsNotDrawn() {
        TicketWindows x = new TicketWindows();
        due("sell(7)", x.sell(7), 10);
        x.draw(1);
        due("another draw is drawn", x.sell(8), 20);
        x.draw(0);
        due("sell(9)", x.sell(9), NOT_POSSIBLE);
        due("sell(7), sold already", x.sell(7), NOT_POSSIBLE);
        due("sold", x.drawOf(0, 1), 2);
        x.undo();
        due("sell(9), when the draw is undone", x.sell(9), 30);
    }

    /** "once" */
    private static void soldOnce() {
        TicketWindows x = new TicketWindows();
        due("sell(599)", x.sell(599), 10);
        due("sell(599)", x.sell(599), NONE);
        due("sell(599)", x.sell(599), NONE);
        due("pool", x.drawOf(5, 0), 10);
        due("states", x.count(12), 1);
        x.undo();
        due("sell(599), when it is undone", x.sell(599), 10);
    }

    /** "the lot x (1 at first, 0 to 65536) becomes (75 * x + 74) modulo 65537" */
    private static void lotOfEachDraw() {
        int[] lots = {149, 11249, 57305, 38044, 35283, 24819};
        for (int first = 0; first < 6; first++) {
            TicketWindows x = new TicketWindows();
            due("lot at first", x.count(11), 1);
            for (int i = 0; i < 6; i++) {
                int draw = (first + i) % 6;
                due("draw(" + draw + ")", x.draw(draw), lots[i] % 100);
                due("lot", x.count(11), lots[i]);
                due("draw(" + draw + ") again", x.draw(draw), NOT_POSSIBLE);
                due("draw(6)", x.draw(6), UNKNOWN);
                due("lot of a refused draw", x.count(11), lots[i]);
            }
        }
    }

    /** "A state is everything but the text, the history and the snapshot": the lot too. */
    private static void lotComesBack() {
        TicketWindows x = new TicketWindows();
        x.draw(0);
        x.draw(1);
        x.keep();
        due("draw(2)", x.draw(2), 5);
        x.undo();
        due("lot", x.count(11), 11249);
        due("draw(3)", x.draw(3), 5);
        x.draw(4);
        x.restore();
        due("lot", x.count(11), 11249);
        due("draw(5)", x.draw(5), 5);
    }

    /** "the winning ticket is x modulo 100" */
    private static void winningIsLotModuloHundred() {
        TicketWindows x = new TicketWindows();
        int[] winning = {49, 49, 5, 44, 83, 19};
        for (int draw = 0; draw < 6; draw++) {
            due("not drawn", x.drawOf(draw, 3), NONE);
            due("not drawn", x.drawOf(draw, 2), 0);
            due("draw(" + draw + ")", x.draw(draw), winning[draw]);
            due("drawn", x.drawOf(draw, 3), winning[draw]);
            due("drawn", x.drawOf(draw, 2), 1);
        }
    }

    /** "a sold ticket wins class 1 if it is the winning one" (it has the same tens and ones too) */
    private static void winningOneIsClassOneAlone() {
        TicketWindows x = new TicketWindows();
        x.sell(249);
        x.draw(2);
        due("class", x.ticketOf(249, 1), 1);
        due("class 1", x.drawOf(2, 4), 1);
        due("class 2", x.drawOf(2, 5), 0);
        due("class 3", x.drawOf(2, 6), 0);
        due("prize", x.ticketOf(249, 2), 4);
    }

    /** "otherwise class 2 if it has the same tens, otherwise class 3 if it has the same ones" */
    private static void tensBeforeOnes() {
        TicketWindows x = new TicketWindows();
        x.draw(3);
        x.draw(4);
        int[] tickets = {4, 5, 6, 9, 0, 15, 95, 55, 10, 50, 99, 14};
        int[] classes = {2, 1, 2, 2, 2, 3, 3, 3, 0, 0, 0, 0};
        for (int ticket : tickets) {
            x.sell(ticket);
        }
        due("the tens of 5 are 0", x.draw(0), 5);
        for (int i = 0; i < tickets.length; i++) {
            due("class of " + tickets[i], x.ticketOf(tickets[i], 1), classes[i]);
        }
        due("class 1", x.drawOf(0, 4), 1);
        due("class 2", x.drawOf(0, 5), 4);
        due("class 3", x.drawOf(0, 6), 3);
        x.sell(140);
        x.sell(144);
        x.sell(134);
        x.draw(1);
        due("44: same tens", x.ticketOf(140, 1), 2);
        due("44: the winning one", x.ticketOf(144, 1), 1);
        due("44: same ones", x.ticketOf(134, 1), 3);
    }

    /** "otherwise nothing" */
    private static void otherwiseNothing() {
        TicketWindows x = new TicketWindows();
        x.sell(50);
        x.sell(48);
        x.sell(94);
        x.draw(0);
        due("class of 50", x.ticketOf(50, 1), 0);
        due("prize of 50", x.ticketOf(50, 2), 0);
        due("class of 94, tens and ones of 49 turned", x.ticketOf(94, 1), 0);
        due("class of 48", x.ticketOf(48, 1), 2);
        due("prize of 48, 30 of a hundred of 30", x.ticketOf(48, 2), 9);
    }

    /** "1 for its class, 0 to 3 (0 also if it is not sold, or its draw is not drawn)" */
    private static void unsoldOnesWinNothing() {
        TicketWindows x = new TicketWindows();
        x.sell(549);
        due("not drawn", x.ticketOf(549, 1), 0);
        due("not drawn, prize", x.ticketOf(549, 2), 0);
        x.draw(5);
        due("sold", x.ticketOf(549, 1), 1);
        due("not sold, same tens", x.ticketOf(548, 1), 0);
        due("not sold, prize", x.ticketOf(548, 2), 0);
        due("the winning one of a draw without tickets", x.draw(0), 49);
        due("not sold", x.ticketOf(49, 1), 0);
        due("tickets that win class 2", x.drawOf(5, 5), 0);
    }

    /** "shared by the sold tickets of the class, rounded down; what is not shared stays in the
     *  pool" */
    private static void sharesRoundedDown() {
        TicketWindows x = new TicketWindows();
        for (int ticket : new int[] {540, 541, 542, 543, 599, 589, 579, 500, 501, 502, 503}) {
            x.sell(ticket);
        }
        x.draw(5);
        due("pool", x.drawOf(5, 0), 110);
        due("33 by 4", x.ticketOf(540, 2), 8);
        due("22 by 3", x.ticketOf(599, 2), 7);
        due("none of class 1", x.drawOf(5, 4), 0);
        due("of class 2", x.drawOf(5, 5), 4);
        due("of class 3", x.drawOf(5, 6), 3);
        due("all prizes", x.drawOf(5, 7), 4 * 8 + 3 * 7);
        Check.order(x, "c0:540;c1:541;c2:599;t1");
        due("coins", x.count(2), 23);
        due("the pool as it was sold", x.drawOf(5, 0), 110);
        due("all pools as sold", x.count(4), 110);
    }

    /** "4 to 6 for the tickets that win the classes 1 to 3 (how many; 0 if it is not drawn)", and a
     *  draw without tickets */
    private static void emptyDraw() {
        TicketWindows x = new TicketWindows();
        x.sell(449);
        for (int what = 4; what < 8; what++) {
            due("not drawn", x.drawOf(4, what), 0);
        }
        due("draw(5)", x.draw(5), 49);
        for (int what = 4; what < 8; what++) {
            due("drawn without tickets", x.drawOf(5, what), 0);
        }
        due("pool", x.drawOf(5, 0), 0);
        due("sold", x.drawOf(5, 1), 0);
    }

    private static void oneTicketOfEachClass() {
        TicketWindows x = new TicketWindows();
        x.sell(549);
        x.sell(540);
        x.sell(509);
        x.draw(5);
        int[] told = {30, 3, 1, 49, 1, 1, 1, 12 + 9 + 6};
        for (int what = 0; what < told.length; what++) {
            due("drawOf(5, " + what + ")", x.drawOf(5, what), told[what]);
        }
        due("class 3 alone in the last draw", x.ticketOf(509, 2), 6);
    }

    /** The third draw wins 5: of each draw the first ten tickets have the same tens. */
    private static void firstTenOfEachDraw() {
        for (int draw = 0; draw < 6; draw++) {
            TicketWindows x = new TicketWindows();
            x.draw((draw + 1) % 6);
            x.draw((draw + 2) % 6);
            for (int n = 0; n <= 10; n++) {
                due("sell", x.sell(100 * draw + n), 10 * n + 10);
            }
            due("sell", x.sell(100 * draw + 95), 120);
            due("draw(" + draw + ")", x.draw(draw), 5);
            for (int n = 0; n <= 9; n++) {
                due("class of " + n, x.ticketOf(100 * draw + n, 1), n == 5 ? 1 : 2);
                due("prize of " + n, x.ticketOf(100 * draw + n, 2), n == 5 ? 48 : 4);
            }
            due("class of 10", x.ticketOf(100 * draw + 10, 1), 0);
            due("prize of 95", x.ticketOf(100 * draw + 95, 2), 24);
            due("all prizes", x.drawOf(draw, 7), 48 + 9 * 4 + 24);
        }
    }

    /** The number 599 goes through all that is told and done of tickets. */
    private static void lastTicketOfAll() {
        TicketWindows x = new TicketWindows();
        x.sell(599);
        x.draw(5);
        due("class", x.ticketOf(599, 1), 3);
        due("prize", x.ticketOf(599, 2), 2);
        due("why", x.why(1, 599), 0);
        Check.order(x, "c0:599;c1:599;t1");
        due("paid twice", x.ticketOf(599, 3), 2);
        due("marks", x.ticketOf(599, 5), 3);
        due("marks of window 1", x.windowOf(1, 5), 1);
        due("coins by tickets", x.paid(true), 4);
        x.pass(3);
        due("called back", x.ticketOf(599, 4), 1);
        due("no dispute is open", x.ticketOf(599, 8), 0);
        due("coins by tickets", x.paid(true), 2);
        due("coins by windows", x.paid(false), 2);
        x.undo();
        due("undone", x.ticketOf(599, 4), 0);
        x.pass(3);
        due("called back again", x.ticketOf(599, 4), 1);
        due("why, with a mark", x.why(2, 599), 4);
    }

    /** The number 0 goes through all that is told and done of tickets. */
    private static void firstTicketOfAll() {
        TicketWindows x = new TicketWindows();
        x.draw(1);
        x.draw(2);
        x.sell(0);
        due("winning", x.draw(0), 5);
        due("class", x.ticketOf(0, 1), 2);
        due("prize", x.ticketOf(0, 2), 3);
        x.set(0, 1);
        x.come(2, 0);
        x.come(2, 0);
        due("waits with it", x.ticketOf(0, 7), 2);
        x.pass(1);
        due("window 2 asks the home 0", x.windowOf(2, 3), 0);
        due("waits", x.windowOf(2, 2), 1);
        due("leave(0)", x.leave(0), 1);
        x.pass(5);
        due("lent", x.ticketOf(0, 6), 1);
        due("paid by the answer", x.pass(1), 3);
        due("for none", x.windowOf(2, 3), NONE);
        x.set(0, 0);
        Check.order(x, "c0:0;t1");
        due("paid at home too, by rule 0", x.ticketOf(0, 3), 2);
        x.pass(3);
        due("a dispute by each mark", x.count(7), 2);
        due("called back", x.ticketOf(0, 4), 1);
    }

    /** "`ticket`: 0 to 599": too small and too large. */
    private static void everyWrongTicket() {
        int[] wrong = {-1, 600, -600, 1000, Integer.MIN_VALUE, Integer.MAX_VALUE,
            Integer.MIN_VALUE + 599, 65536, -100};
        TicketWindows x = new TicketWindows();
        for (int ticket : wrong) {
            due("sell(" + ticket + ")", x.sell(ticket), UNKNOWN);
            due("come(0, " + ticket + ")", x.come(0, ticket), UNKNOWN);
            due("leave(" + ticket + ")", x.leave(ticket), UNKNOWN);
            due("why(0, " + ticket + ")", x.why(0, ticket), UNKNOWN);
            for (int what = -1; what < 10; what++) {
                due("ticketOf(" + ticket + ", " + what + ")", x.ticketOf(ticket, what), UNKNOWN);
            }
        }
        due("states", x.count(12), 0);
    }

    /** "`draw`: 0 to 5": too small and too large. */
    private static void everyWrongDraw() {
        TicketWindows x = new TicketWindows();
        for (int draw : new int[] {-1, 6, -6, 100, Integer.MIN_VALUE, Integer.MAX_VALUE}) {
            due("draw(" + draw + ")", x.draw(draw), UNKNOWN);
            for (int what = -1; what < 9; what++) {
                due("drawOf(" + draw + ", " + what + ")", x.drawOf(draw, what), UNKNOWN);
            }
        }
        due("lot", x.count(11), 1);
        due("states", x.count(12), 0);
    }

    /** "Returns the number; UNKNOWN; BAD_VALUE": one less and one more than is told, at each end. */
    private static void everyWrongWhat() {
        TicketWindows x = new TicketWindows();
        for (int what : new int[] {-1, 9, 10, 100, Integer.MIN_VALUE, Integer.MAX_VALUE}) {
            due("ticketOf(0, " + what + ")", x.ticketOf(0, what), BAD_VALUE);
            due("ticketOf(599, " + what + ")", x.ticketOf(599, what), BAD_VALUE);
        }
        for (int what : new int[] {-1, 8, 9, 100, Integer.MIN_VALUE, Integer.MAX_VALUE}) {
            due("drawOf(0, " + what + ")", x.drawOf(0, what), BAD_VALUE);
            due("drawOf(5, " + what + ")", x.drawOf(5, what), BAD_VALUE);
        }
        for (int what : new int[] {-1, 10, 11, 100, Integer.MIN_VALUE, Integer.MAX_VALUE}) {
            due("windowOf(0, " + what + ")", x.windowOf(0, what), BAD_VALUE);
            due("windowOf(2, " + what + ")", x.windowOf(2, what), BAD_VALUE);
        }
        for (int what : new int[] {-1, 17, 18, 100, Integer.MIN_VALUE, Integer.MAX_VALUE}) {
            due("count(" + what + ")", x.count(what), BAD_VALUE);
        }
        for (int window : new int[] {-1, 3, 4, Integer.MIN_VALUE, Integer.MAX_VALUE}) {
            for (int what = -1; what < 11; what++) {
                due("windowOf(" + window + ", " + what + ")", x.windowOf(window, what), UNKNOWN);
            }
        }
    }

    /** "Returns the coins (the same for both)": of every draw, the last one too. */
    private static void ticketsAndWindowsTellTheSame() {
        TicketWindows x = new TicketWindows();
        int[] winning = {49, 49, 5, 44, 83, 19};
        for (int draw = 0; draw < 6; draw++) {
            x.sell(100 * draw + winning[draw]);
            x.draw(draw);
            x.come(0, 100 * draw + winning[draw]);
            x.come(1, 100 * draw + winning[draw]);
        }
        for (int tick = 1; tick <= 9; tick++) {
            x.pass(1);
            int want = 8 * Math.min(tick, 6) - 4 * Math.max(0, Math.min(tick - 3, 6));
            due("paid(true) behind tick " + tick, x.paid(true), want);
            due("paid(false) behind tick " + tick, x.paid(false), want);
        }
        due("one payment of each draw stands", x.paid(true), 24);
    }
}
