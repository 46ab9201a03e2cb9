import java.util.function.ToIntFunction;

/**
 * Terms, ERRORS and HISTORY: "A call that returns an error or NONE changes nothing", a test for each
 * refusal that the document names, and "Each call of a method that is described as an act, and
 * returns no error and not NONE, records the state that was before it". Two objects that were built
 * by the same calls are compared; one of them alone gets the call.
 */
public final class RefusedEdgesTest {
    private static final Check CHECK = new Check("RefusedEdgesTest");
    private static final int UNKNOWN = TicketWindows.UNKNOWN;
    private static final int BAD_VALUE = TicketWindows.BAD_VALUE;
    private static final int FULL = TicketWindows.FULL;
    private static final int NOT_POSSIBLE = TicketWindows.NOT_POSSIBLE;
    private static final int NONE = TicketWindows.NONE;
    private static final int MOST = Integer.MAX_VALUE;
    private static final int LEAST = Integer.MIN_VALUE;

    private static final String TEXT = "s149;d1;s100";

    public static void main(String[] args) {
        busyIsBusy();
        refusedTicketsAndDraws();
        refusedCustomers();
        refusedTicks();
        refusedSettings();
        refusedTexts();
        refusedHistory();
        refusedQuestions();
        answersChangeNothing();
        ordersThatFailLast();
        actsAreUndone();
        undoneToTheLastPlace();
        snapshotToTheLastPlace();
        historyOfFour();
        emptyHistory();
        emptySnapshot();
        orderOfTheChecks();
        CHECK.finish();
    }

    private static void due(String call, long got, long want) {
        CHECK.due(call, got, want);
    }

    /** Rows, a full one among them, a window that waits, messages, disputes, a snapshot, a text. */
    private static TicketWindows busy() {
        TicketWindows x = new TicketWindows();
        for (int ticket : new int[] {549, 540, 509, 599, 543, 500}) {
            x.sell(ticket);
        }
        x.draw(5);
        x.set(1, 2);
        x.keep();
        int[] firstRound = {549, 540, 509};
        int[] secondRound = {509, 549, 540};
        for (int window = 0; window < 3; window++) {
            x.come(window, firstRound[window]);
            x.come(window, secondRound[window]);
        }
        x.pass(2);
        x.set(0, 1);
        x.come(1, 543);
        for (int i = 0; i < 8; i++) {
            x.come(2, i == 7 ? 599 : 500);
        }
        x.sell(49);
        x.pass(1);
        x.come(2, 599);
        x.come(0, 549);
        Check.write(x, TEXT);
        return x;
    }

    private static String told(TicketWindows x) {
        return Told.of(x, 549, 540, 599, 49);
    }

    private static void busyIsBusy() {
        TicketWindows x = busy();
        due("a full row", x.windowOf(2, 0), 8);
        due("a window waits", x.windowOf(1, 3), 543);
        due("open disputes", x.count(8), 2);
        due("messages", x.count(1), 7);
        due("states", x.count(12), 4);
        due("called back", x.count(6), 1);
        due("text", x.count(13), TEXT.length());
    }

    private static void refused(String call, ToIntFunction<TicketWindows> made, int want) {
        TicketWindows with = busy();
        due(call, made.applyAsInt(with), want);
        sameAs(call, with, busy());
    }

    /** All that is told, then the history state by state, the snapshot, and what comes. */
    private static void sameAs(String call, TicketWindows with, TicketWindows without) {
        Told.same(CHECK, "behind " + call, told(with), told(without));
        for (int i = 0; i < 5; i++) {
            due("undo() behind " + call, with.undo(), without.undo());
            Told.same(CHECK, "history behind " + call, Told.totals(with), Told.totals(without));
        }
        due("pass(30) behind " + call, with.pass(30), without.pass(30));
        Told.same(CHECK, "ticks behind " + call, Told.totals(with), Told.totals(without));
        due("restore() behind " + call, with.restore(), without.restore());
        Told.same(CHECK, "snapshot behind " + call, Told.totals(with), Told.totals(without));
        due("doAll() behind " + call, with.doAll(), without.doAll());
    }

    /** Promises 2 and 3. */
    private static void refusedTicketsAndDraws() {
        for (int ticket : new int[] {-1, 600, LEAST, MOST}) {
            refused("sell(" + ticket + ")", x -> x.sell(ticket), UNKNOWN);
        }
        refused("sell(501), drawn", x -> x.sell(501), NOT_POSSIBLE);
        refused("sell(549), drawn and sold", x -> x.sell(549), NOT_POSSIBLE);
        refused("sell(49), sold", x -> x.sell(49), NONE);
        for (int draw : new int[] {-1, 6, LEAST, MOST}) {
            refused("draw(" + draw + ")", x -> x.draw(draw), UNKNOWN);
        }
        refused("draw(5), drawn", x -> x.draw(5), NOT_POSSIBLE);
    }

    /** Promises 4 and 5. */
    private static void refusedCustomers() {
        for (int number : new int[] {-1, 600, LEAST, MOST}) {
            refused("come(0, " + number + ")", x -> x.come(0, number), UNKNOWN);
            refused("come(2, " + number + "), full", x -> x.come(2, number), UNKNOWN);
            refused("come(" + number + ", 0)", x -> x.come(number, 0), UNKNOWN);
            refused("come(" + number + ", -1)", x -> x.come(number, -1), UNKNOWN);
            refused("leave(" + number + ")", x -> x.leave(number), UNKNOWN);
        }
        refused("come(3, 0)", x -> x.come(3, 0), UNKNOWN);
        refused("come(2, 599), full", x -> x.come(2, 599), FULL);
        refused("leave(0), none has it", x -> x.leave(0), NONE);
        refused("leave(543), its window waits", x -> x.leave(543), NONE);
    }

    /** Promise 6. */
    private static void refusedTicks() {
        for (int ticks : new int[] {0, 100, -1, LEAST, MOST}) {
            refused("pass(" + ticks + ")", x -> x.pass(ticks), BAD_VALUE);
        }
    }

    /** Promise 7. */
    private static void refusedSettings() {
        int[][] wrong = {{-1, 1}, {3, 1}, {0, -1}, {0, 3}, {1, 0}, {1, 10}, {2, 0}, {2, 21},
            {LEAST, 1}, {MOST, 1}, {0, LEAST}, {0, MOST}, {1, LEAST}, {1, MOST}, {2, LEAST},
            {2, MOST}, {3, -1}};
        for (int[] pair : wrong) {
            refused("set(" + pair[0] + ", " + pair[1] + ")", x -> x.set(pair[0], pair[1]),
                    BAD_VALUE);
        }
        refused("set(0, 1), so already", x -> x.set(0, 1), NONE);
        refused("set(1, 2), so already", x -> x.set(1, 2), NONE);
        refused("set(2, 12), so already", x -> x.set(2, 12), NONE);
    }

    /** Promises 8 to 11: the text of one object is the same as that of the other. */
    private static void refusedTexts() {
        TicketWindows with = busy();
        TicketWindows without = busy();
        for (int i = TEXT.length(); i < 60; i++) {
            due("type", with.type(';'), i + 1);
            without.type(';');
        }
        due("type('x'), full", with.type('x'), FULL);
        due("type('s'), full", with.type('s'), FULL);
        due("doAll(), a fault", with.doAll(), -100 - TEXT.length() - 1);
        sameAs("a full text", with, without);
        refused("fault()", TicketWindows::fault, NONE);
        refused("doAll(), an order is refused", TicketWindows::doAll, NOT_POSSIBLE);
        TicketWindows empty = busy();
        empty.clearText();
        due("clearText() of none", empty.clearText(), 0);
        due("doAll() of none", empty.doAll(), -100);
        TicketWindows other = busy();
        other.clearText();
        sameAs("an empty text", empty, other);
    }

    /** Promises 12 and 14: nothing to undo, nothing to restore. */
    private static void refusedHistory() {
        TicketWindows with = new TicketWindows();
        due("undo()", with.undo(), NONE);
        due("restore()", with.restore(), NONE);
        sameAs("an empty history", with, new TicketWindows());
        TicketWindows x = busy();
        TicketWindows y = busy();
        for (int i = 3; i >= 0; i--) {
            due("undo()", x.undo(), i);
            y.undo();
        }
        due("undo()", x.undo(), NONE);
        Told.same(CHECK, "behind undo() of none", told(x), told(y));
    }

    /** Promises 15 to 21, with wrong arguments. */
    private static void refusedQuestions() {
        for (int wrong : new int[] {-1, 600, LEAST, MOST}) {
            refused("ticketOf(" + wrong + ", 0)", x -> x.ticketOf(wrong, 0), UNKNOWN);
            refused("ticketOf(0, " + wrong + ")", x -> x.ticketOf(0, wrong), BAD_VALUE);
            refused("drawOf(" + wrong + ", 0)", x -> x.drawOf(wrong, 0), UNKNOWN);
            refused("drawOf(0, " + wrong + ")", x -> x.drawOf(0, wrong), BAD_VALUE);
            refused("windowOf(" + wrong + ", 0)", x -> x.windowOf(wrong, 0), UNKNOWN);
            refused("windowOf(0, " + wrong + ")", x -> x.windowOf(0, wrong), BAD_VALUE);
            refused("count(" + wrong + ")", x -> x.count(wrong), BAD_VALUE);
            refused("why(" + wrong + ", 0)", x -> x.why(wrong, 0), UNKNOWN);
            refused("why(0, " + wrong + ")", x -> x.why(0, wrong), UNKNOWN);
            refused("ifRule(" + wrong + ", 1, 0)", x -> x.ifRule(wrong, 1, 0), BAD_VALUE);
            refused("ifRule(0, " + wrong + ", 0)", x -> x.ifRule(0, wrong, 0), BAD_VALUE);
            refused("ifRule(0, 1, " + wrong + ")", x -> x.ifRule(0, 1, wrong), BAD_VALUE);
        }
        refused("ifRule(3, 1, 0)", x -> x.ifRule(3, 1, 0), BAD_VALUE);
        refused("ifRule(0, 0, 0)", x -> x.ifRule(0, 0, 0), BAD_VALUE);
        refused("ifRule(0, 100, 0)", x -> x.ifRule(0, 100, 0), BAD_VALUE);
        refused("ifRule(0, 1, 4)", x -> x.ifRule(0, 1, 4), BAD_VALUE);
        refused("drawOf(0, 3), not drawn", x -> x.drawOf(0, 3), NONE);
        refused("windowOf(1, 1), no row", x -> x.windowOf(1, 1), NONE);
        refused("windowOf(0, 3), free", x -> x.windowOf(0, 3), NONE);
    }

    /** What is no act changes nothing though it returns a number. */
    private static void answersChangeNothing() {
        for (int rule = 0; rule < 3; rule++) {
            for (int what = 0; what < 4; what++) {
                int whichRule = rule;
                int which = what;
                TicketWindows with = busy();
                with.ifRule(whichRule, 99, which);
                sameAs("ifRule(" + rule + ", 99, " + what + ")", with, busy());
            }
        }
        TicketWindows with = busy();
        CHECK.holds("a rule", with.bestRule() >= NONE);
        due("shortest()", with.shortest(), 1);
        due("why(0, 549)", with.why(0, 549), 4);
        sameAs("bestRule()", with, busy());
    }

    /** Promise 11: "all of them or none": what the orders before did is as if it was not. */
    private static void ordersThatFailLast() {
        String[] texts = {"s0;s1;d0;d5", "t9;c2:0;s501", "c2:599", "c0:1;t99;c1:599;d5",
            "d0;d1;d2;d3;d4;d5", "t99;t99;t99;t99;t99;t99;s549", "s49;s49;s49;d5"};
        int[] answers = {NOT_POSSIBLE, NOT_POSSIBLE, FULL, NOT_POSSIBLE, NOT_POSSIBLE, NOT_POSSIBLE,
            NOT_POSSIBLE};
        for (int i = 0; i < texts.length; i++) {
            TicketWindows with = busy();
            TicketWindows without = busy();
            due("doAll of " + texts[i], Check.order(with, texts[i]), answers[i]);
            Check.write(without, texts[i]);
            sameAs(texts[i], with, without);
        }
    }

    /** Promise 12: each act is undone, and the state that comes back goes on as it would have. */
    private static void actsAreUndone() {
        undone("sell(499)", x -> x.sell(499));
        undone("draw(0)", x -> x.draw(0));
        undone("come(1, 599)", x -> x.come(1, 599));
        undone("leave(500)", x -> x.leave(500));
        undone("pass(1)", x -> x.pass(1));
        undone("pass(99)", x -> x.pass(99));
        undone("set(0, 0)", x -> x.set(0, 0));
        undone("set(1, 9)", x -> x.set(1, 9));
        undone("set(2, 1)", x -> x.set(2, 1));
        undone("restore()", x -> x.restore());
    }

    private static void undone(String act, ToIntFunction<TicketWindows> made) {
        TicketWindows with = busy();
        TicketWindows without = busy();
        CHECK.holds(act + " is done", made.applyAsInt(with) >= 0);
        due(act + " drops the oldest state", with.count(12), 4);
        due("undo() of " + act, with.undo(), 3);
        // The other still has the state that the act dropped: the number of states is left out.
        String what = "behind the undo of " + act;
        Told.same(CHECK, what, exceptStates(told(with)), exceptStates(told(without)));
        due("pass(9) " + what, with.pass(9), without.pass(9));
        Told.same(CHECK, "later " + what, exceptStates(told(with)), exceptStates(told(without)));
    }

    private static String exceptStates(String told) {
        return told.replaceAll("count\\(12\\) = .\n", "");
    }

    /** A state to its ends: the last ticket, draw, window, place in a row. */
    private static TicketWindows atTheEnds() {
        TicketWindows x = new TicketWindows();
        x.sell(549);
        x.sell(599);
        x.sell(540);
        x.sell(0);
        x.draw(5);
        x.set(0, 1);
        for (int i = 0; i < 9; i++) {
            x.come(2, i < 2 ? 549 : i < 7 ? 590 + i : 599);
            if (i == 0) {
                x.pass(1);
            }
        }
        x.come(0, 540);
        x.pass(1);
        return x;
    }

    private static String atTheEndsTold(TicketWindows x) {
        return exceptStates(Told.of(x, 0, 540, 549, 599));
    }

    private static void undoneToTheLastPlace() {
        TicketWindows x = atTheEnds();
        String before = atTheEndsTold(x);
        due("window 2 has waited", x.windowOf(2, 4), 2);
        due("its row is full", x.windowOf(2, 0), 8);
        x.leave(599);
        x.set(0, 0);
        x.pass(99);
        x.sell(1);
        CHECK.holds("much changed", !atTheEndsTold(x).equals(before));
        for (int left = 3; left >= 0; left--) {
            due("undo()", x.undo(), left);
        }
        Told.same(CHECK, "undone", atTheEndsTold(x), before);
        due("the eighth one is back", x.leave(599), 2);
        x.undo();
        TicketWindows y = atTheEnds();
        due("it goes on as it would have", x.pass(60), y.pass(60));
        Told.same(CHECK, "it went on", atTheEndsTold(x), atTheEndsTold(y));
    }

    /** "A state is everything but the text, the history and the snapshot." */
    private static void snapshotToTheLastPlace() {
        TicketWindows x = atTheEnds();
        String before = atTheEndsTold(x);
        due("keep()", x.keep(), 2);
        x.leave(599);
        x.set(0, 2);
        x.set(1, 9);
        x.set(2, 1);
        x.draw(0);
        x.pass(99);
        due("restore()", x.restore(), 2);
        Told.same(CHECK, "restored", atTheEndsTold(x), before);
        due("states", x.count(12), 4);
        TicketWindows y = atTheEnds();
        due("it goes on as it would have", x.pass(60), y.pass(60));
        Told.same(CHECK, "it went on", atTheEndsTold(x), atTheEndsTold(y));
        due("the snapshot stays", x.restore(), 2);
        Told.same(CHECK, "restored again", Told.totals(x),
                Told.totals(x).replace("count(0) = 101", "count(0) = 2"));
        due("undo() of the restore", x.undo(), 3);
        due("tick", x.count(0), 62);
    }

    /** "A history of at most 4 states is kept; when one more is recorded, the oldest one is
     *  dropped; undo() removes and restores the latest one." */
    private static void historyOfFour() {
        for (int acts = 0; acts <= 9; acts++) {
            TicketWindows x = new TicketWindows();
            for (int i = 1; i <= acts; i++) {
                x.pass(i);
                due("states", x.count(12), Math.min(i, 4));
            }
            int tick = acts * (acts + 1) / 2;
            int kept = Math.min(acts, 4);
            for (int i = 0; i < kept; i++) {
                due("tick", x.count(0), tick);
                due("undo()", x.undo(), kept - 1 - i);
                tick -= acts - i;
            }
            due("undo()", x.undo(), NONE);
            due("the oldest tick", x.count(0), tick);
            due("one act more", x.sell(0), 10);
            due("states", x.count(12), 1);
            due("undo()", x.undo(), 0);
            due("tick", x.count(0), tick);
        }
    }

    /** "NONE if the history is empty" */
    private static void emptyHistory() {
        TicketWindows x = new TicketWindows();
        due("undo()", x.undo(), NONE);
        due("undo()", x.undo(), NONE);
        x.keep();
        due("keep() is no act", x.undo(), NONE);
        x.type('s');
        x.clearText();
        due("a text is no act", x.undo(), NONE);
        x.restore();
        due("restore() is one", x.undo(), 0);
        due("undo() is none", x.undo(), NONE);
    }

    /** "There is one snapshot, empty at first." */
    private static void emptySnapshot() {
        TicketWindows x = new TicketWindows();
        due("restore()", x.restore(), NONE);
        x.sell(1);
        due("restore()", x.restore(), NONE);
        due("sold", x.count(4), 10);
        due("keep()", x.keep(), 0);
        x.undo();
        due("an undo leaves the snapshot", x.restore(), 0);
        due("sold", x.count(4), 10);
        due("sold once", x.sell(1), NONE);
        x.pass(5);
        due("keep() in place of it", x.keep(), 5);
        x.undo();
        due("tick", x.count(0), 0);
        due("the latest one", x.restore(), 5);
        due("tick", x.count(0), 5);
    }

    /** "Where several errors can apply, the order of the @return line is the order of the checks",
     *  and NONE "is returned only if no error applies". */
    private static void orderOfTheChecks() {
        TicketWindows x = busy();
        due("sell: NOT_POSSIBLE before NONE", x.sell(549), NOT_POSSIBLE);
        due("come: UNKNOWN before FULL", x.come(2, 600), UNKNOWN);
        due("come: UNKNOWN before FULL", x.come(3, 599), UNKNOWN);
        due("ticketOf: UNKNOWN before BAD_VALUE", x.ticketOf(600, 9), UNKNOWN);
        due("drawOf: UNKNOWN before BAD_VALUE", x.drawOf(6, 8), UNKNOWN);
        due("windowOf: UNKNOWN before BAD_VALUE", x.windowOf(3, 10), UNKNOWN);
        due("set: BAD_VALUE before NONE", x.set(3, 12), BAD_VALUE);
        due("doAll: the fault before the orders", Check.order(x, "d5;x"), -103);
        due("doAll: the first order that is refused", Check.order(x, "d5;c2:599"), NOT_POSSIBLE);
        due("doAll: the first order that is refused", Check.order(x, "c2:599;d5"), FULL);
        for (int i = 0; i < 102; i++) {
            x.pass(x.count(0) + 99 > 9999 ? 1 : 99);
        }
        due("pass: BAD_VALUE before FULL", x.pass(100), BAD_VALUE);
    }
}
