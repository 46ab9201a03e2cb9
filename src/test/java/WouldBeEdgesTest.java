/** Promises 20 to 23: a test for each sentence that names an edge, which stands above it. */
public final class WouldBeEdgesTest {
    private static final Check CHECK = new Check("WouldBeEdgesTest");
    private static final int UNKNOWN = TicketWindows.UNKNOWN;
    private static final int BAD_VALUE = TicketWindows.BAD_VALUE;
    private static final int NONE = TicketWindows.NONE;

    public static void main(String[] args) {
        whyOfEachReason();
        whyOfWrongNumbers();
        ifRuleAtItsEnds();
        ninetyNineTicks();
        lastTickCounts();
        hundredthTickDoesNot();
        ifRuleOfNothing();
        ifRuleBelowTheBase();
        ifRuleCountsSinceNow();
        bestOfSeveral();
        bestThoughPaidTwiceBefore();
        noneIfEachPaysTwice();
        shortestOfAllRows();
        shortestIsFreeFirst();
        CHECK.finish();
    }

    private static void due(String call, long got, long want) {
        CHECK.due(call, got, want);
    }

    private static TicketWindows drawn(int rule, int... tickets) {
        TicketWindows x = new TicketWindows();
        for (int ticket : tickets) {
            x.sell(ticket);
        }
        x.draw(0);
        x.set(0, rule);
        return x;
    }

    /** "Returns the reason 1 to 5; 0 if it would be paid at once, or its home would be asked": the
     *  first of the reasons, at each window, by each rule. */
    private static void whyOfEachReason() {
        for (int rule = 0; rule < 3; rule++) {
            TicketWindows x = drawn(rule, 49, 40, 50);
            x.sell(100);
            for (int window = 0; window < 3; window++) {
                due("not sold", x.why(window, 0), 1);
                due("not sold, not drawn", x.why(window, 599), 1);
                due("not drawn", x.why(window, 100), 2);
                due("no prize", x.why(window, 50), 3);
                due("paid, or asked", x.why(window, 49), 0);
            }
            x.come(1, 49);
            x.pass(1);
            due("its own mark", x.why(1, 49), 4);
            due("no mark here", x.why(0, 49), rule == 2 ? 5 : 0);
            due("no mark here", x.why(2, 49), rule == 2 ? 5 : 0);
            due("none of 40", x.why(1, 40), 0);
            x.pass(3);
            for (int window = 0; window < 3; window++) {
                due("a mark", x.why(window, 49), 4);
            }
        }
        TicketWindows x = drawn(1, 49);
        x.come(2, 49);
        x.pass(4);
        due("lent, at home", x.why(1, 49), 5);
        due("lent, asked", x.why(0, 49), 0);
        due("lent, by a window that waits", x.why(2, 49), 0);
        x.set(0, 0);
        due("lent, rule 0", x.why(1, 49), 0);
        x.set(0, 2);
        due("lent, rule 2", x.why(1, 49), 0);
    }

    /** "UNKNOWN" */
    private static void whyOfWrongNumbers() {
        TicketWindows x = drawn(0, 49);
        for (int wrong : new int[] {-1, 600, Integer.MIN_VALUE, Integer.MAX_VALUE}) {
            due("why(" + wrong + ", 49)", x.why(wrong, 49), UNKNOWN);
            due("why(0, " + wrong + ")", x.why(0, wrong), UNKNOWN);
            due("why, both", x.why(wrong, wrong), UNKNOWN);
        }
        due("why(3, 49)", x.why(3, 49), UNKNOWN);
        due("why(2, 49)", x.why(2, 49), 0);
        due("why(2, 599)", x.why(2, 599), 1);
    }

    /** "`rule`: 0 to 2", "`ticks`: 1 to 99", "`what`: 0 .. 3" */
    private static void ifRuleAtItsEnds() {
        TicketWindows x = drawn(0, 49);
        x.come(0, 49);
        int[] wrong = {-1, Integer.MIN_VALUE, Integer.MAX_VALUE};
        for (int number : wrong) {
            due("rule", x.ifRule(number, 1, 0), BAD_VALUE);
            due("ticks", x.ifRule(0, number, 0), BAD_VALUE);
            due("what", x.ifRule(0, 1, number), BAD_VALUE);
        }
        due("rule 3", x.ifRule(3, 1, 0), BAD_VALUE);
        due("ticks 0", x.ifRule(0, 0, 0), BAD_VALUE);
        due("ticks 100", x.ifRule(0, 100, 0), BAD_VALUE);
        due("what 4", x.ifRule(0, 1, 4), BAD_VALUE);
        int[] payments = {1, 0, 1};
        for (int rule = 0; rule < 3; rule++) {
            due("one tick", x.ifRule(rule, 1, 0), payments[rule]);
            due("ticks 99", x.ifRule(rule, 99, 0), 1);
        }
    }

    /** Seven tickets at window 0 that are not at home there, each lent in twice the seven ticks that
     *  a message takes: by rule 1 the last one is paid in the tick 98 from now. Window 2 has a copy
     *  of the first one, which rule 0 pays. */
    private static TicketWindows sevenToBeLent() {
        int[] tickets = {40, 41, 43, 44, 46, 47, 49};
        TicketWindows x = drawn(0, tickets);
        x.set(1, 7);
        x.set(2, 20);
        for (int ticket : tickets) {
            x.come(0, ticket);
        }
        x.come(2, 40);
        return x;
    }

    private static void ninetyNineTicks() {
        TicketWindows x = sevenToBeLent();
        due("rule 1, 98 ticks", x.ifRule(1, 98, 0), 6);
        due("rule 1, 99 ticks", x.ifRule(1, 99, 0), 7);
        due("rule 2, 7 ticks", x.ifRule(2, 7, 0), 7);
        due("rule 2, 6 ticks", x.ifRule(2, 6, 0), 6);
        due("rule 0 pays 40 twice", x.ifRule(0, 99, 1), 1);
        due("rule 1 does not", x.ifRule(1, 99, 1), 0);
    }

    /** "behind 99 ticks, there are the most payments": the 99th tick is one of them. */
    private static void lastTickCounts() {
        due("as many by rule 1 as by rule 2", sevenToBeLent().bestRule(), 1);
    }

    /** Window 2 asks for 40 a tick before window 0, which is refused: the last of the seven payments
     *  comes in the tick 99 from now. */
    private static void hundredthTickDoesNot() {
        int[] tickets = {40, 41, 43, 44, 46, 47, 49};
        TicketWindows x = sevenToBeLent();
        for (int ticket : tickets) {
            x.leave(ticket);
        }
        x.come(2, 40);
        x.come(0, 599);
        for (int ticket : tickets) {
            x.come(0, ticket);
        }
        due("rule 1", x.ifRule(1, 99, 0), 6);
        due("rule 2", x.ifRule(2, 99, 0), 7);
        due("best", x.bestRule(), 2);
        x.leave(599);
        due("a tick sooner", x.ifRule(1, 99, 0), 7);
        due("best", x.bestRule(), 1);
    }

    /** "Tells what ticks would bring ..., if nothing else is done": nobody in a row. */
    private static void ifRuleOfNothing() {
        TicketWindows x = new TicketWindows();
        int[] nothing = {0, 0, 0, 100000};
        for (int rule = 0; rule < 3; rule++) {
            for (int what = 0; what < 4; what++) {
                due("ifRule(" + rule + ", 1, " + what + ")", x.ifRule(rule, 1, what),
                        nothing[what]);
                due("ifRule(" + rule + ", 99, " + what + ")", x.ifRule(rule, 99, what),
                        nothing[what]);
            }
        }
        due("bestRule()", x.bestRule(), 0);
    }

    /** "3 for coins paid in them less those called back in them, and 100000": less than that if more
     *  is called back than paid. */
    private static void ifRuleBelowTheBase() {
        TicketWindows x = drawn(0, 49);
        for (int window = 0; window < 3; window++) {
            x.come(window, 49);
        }
        x.pass(3);
        for (int rule = 0; rule < 3; rule++) {
            due("two are called back", x.ifRule(rule, 1, 3), 100000 - 8);
            due("no payments", x.ifRule(rule, 1, 0), 0);
            due("paid more than once by then", x.ifRule(rule, 1, 1), 1);
            due("nobody sent away", x.ifRule(rule, 1, 2), 0);
        }
        x.undo();
        due("paid and called back", x.ifRule(0, 4, 3), 100004);
        due("paid and not called back yet", x.ifRule(0, 3, 3), 100012);
    }

    /** "0 for payments in them", "2 for customers who are sent away in them": not those before. */
    private static void ifRuleCountsSinceNow() {
        TicketWindows x = drawn(0, 49, 40);
        Check.order(x, "c0:49;c0:50;c1:49;t2;c2:40;c2:41");
        due("payments so far", x.count(5), 2);
        due("one more", x.ifRule(0, 1, 0), 1);
        due("none away in one", x.ifRule(0, 1, 2), 0);
        due("one away in two", x.ifRule(0, 2, 2), 1);
        due("coins in one", x.ifRule(0, 1, 3), 100006);
        due("twice, those before too", x.ifRule(2, 1, 1), 1);
    }

    /** "of several the lowest" */
    private static void bestOfSeveral() {
        TicketWindows x = drawn(2, 49);
        due("nobody comes", x.bestRule(), 0);
        x.come(0, 49);
        due("each pays one", x.bestRule(), 0);
        x.come(1, 49);
        due("rule 0 pays twice", x.bestRule(), 1);
        x.leave(49);
        x.come(0, 49);
        x.come(2, 49);
        x.set(2, 5);
        due("the home answers too late", x.ifRule(1, 99, 0), 0);
        due("rule 2 alone", x.bestRule(), 2);
        x.set(2, 6);
        due("in time", x.bestRule(), 1);
    }

    /** "no more tickets were paid more than once than now" */
    private static void bestThoughPaidTwiceBefore() {
        TicketWindows x = drawn(0, 49, 40);
        x.set(1, 9);
        Check.order(x, "c0:49;c1:49;t1;c2:49;c2:40");
        due("one by now", x.count(9), 1);
        due("paid a third time by rule 0", x.ifRule(0, 99, 0), 2);
        due("that is no ticket more", x.ifRule(0, 99, 1), 1);
        due("but is called back", x.bestRule(), 0);
        x.come(0, 40);
        due("one ticket more by rule 0", x.ifRule(0, 99, 1), 2);
        due("rule 1, the answers come too late", x.ifRule(1, 99, 0), 0);
        due("rule 2", x.ifRule(2, 99, 0), 1);
        due("best", x.bestRule(), 2);
        x.set(2, 20);
        due("rule 1, they come in time", x.ifRule(1, 99, 0), 1);
        due("best", x.bestRule(), 1);
    }

    /** "NONE if by each rule there were more" */
    private static void noneIfEachPaysTwice() {
        TicketWindows x = drawn(1, 49);
        x.come(0, 49);
        x.pass(4);
        x.set(0, 0);
        x.come(2, 49);
        x.pass(1);
        due("paid once", x.count(5), 1);
        for (int rule = 0; rule < 3; rule++) {
            due("the answer pays it again", x.ifRule(rule, 99, 1), 1);
        }
        due("bestRule()", x.bestRule(), NONE);
        due("undo()", x.undo(), 3);
        due("before that rule 1 is best", x.bestRule(), 1);
    }

    /** "Finds the window with the shortest row": every triple of rows up to three. */
    private static void shortestOfAllRows() {
        for (int rows = 0; rows < 64; rows++) {
            int[] many = {rows % 4, rows / 4 % 4, rows / 16};
            TicketWindows x = new TicketWindows();
            int want = 0;
            for (int window = 0; window < 3; window++) {
                for (int i = 0; i < many[window]; i++) {
                    x.come(window, i);
                }
                want = many[window] < many[want] ? window : want;
            }
            due("rows " + many[0] + many[1] + many[2], x.shortest(), want);
        }
    }

    /** "of several the one that is free, of several the lowest": every set of waiting windows, in
     *  every triple of rows up to two. */
    private static void shortestIsFreeFirst() {
        int[] foreign = {49, 41, 40};
        for (int waiting = 0; waiting < 8; waiting++) {
            for (int rows = 0; rows < 27; rows++) {
                int[] many = {rows % 3, rows / 3 % 3, rows / 9};
                TicketWindows x = drawn(1, foreign);
                for (int window = 0; window < 3; window++) {
                    if ((waiting >> window & 1) == 1) {
                        x.come(window, foreign[window]);
                    }
                }
                x.pass(1);
                int want = -1;
                for (int window = 0; window < 3; window++) {
                    due("waits", x.windowOf(window, 2), waiting >> window & 1);
                    for (int i = 0; i < many[window]; i++) {
                        x.come(window, 599);
                    }
                    int cost = 2 * many[window] + (waiting >> window & 1);
                    if (want < 0 || cost < 2 * many[want] + (waiting >> want & 1)) {
                        want = window;
                    }
                }
                due("waiting " + waiting + ", rows " + rows, x.shortest(), want);
            }
        }
    }
}
