/** Promise 6, and the tick that it lets pass: messages, windows by their rules, the clerk. */
public final class TickTest {
    private static final Check CHECK = new Check("TickTest");

    public static void main(String[] args) {
        reasonsInTheirOrder();
        oneCustomerAWindowAndTick();
        marksTakeTheirTime();
        travelIsThatOfTheSending();
        disputeOfThree();
        disputeOpensAgain();
        oneDisputeATick();
        homePaysAtOnce();
        homeIsAsked();
        homeWithAMarkRefuses();
        homeThatHasLentRefuses();
        homeDoesNotPayWhatItLent();
        waitingIsGivenUp();
        patienceIsThatOfTheMoment();
        secondQuestionForTheSameTicket();
        answerAndRowInOneTick();
        ruleTwoCallsItOut();
        ruleTwoPaysTwiceAfterAQuestion();
        CHECK.finish();
    }

    private static void due(String call, long got, long want) {
        CHECK.due(call, got, want);
    }

    /** Draw 0 with the tickets 49 (class 1), 40 (class 2), 9 (class 3) and 50 (none). */
    private static TicketWindows drawn(int rule) {
        TicketWindows x = new TicketWindows();
        for (int ticket : new int[] {49, 40, 9, 50}) {
            x.sell(ticket);
        }
        x.draw(0);
        x.set(0, rule);
        return x;
    }

    private static void reasonsInTheirOrder() {
        TicketWindows x = drawn(0);
        x.sell(149);
        int[] tickets = {51, 100, 149, 50, 49, 49};
        int[] reasons = {1, 1, 2, 3, 3, 4};
        for (int i = 0; i < tickets.length; i++) {
            x.come(1, tickets[i]);
        }
        for (int i = 0; i < tickets.length; i++) {
            due("6: coins for " + tickets[i], x.pass(1), i == 4 ? 16 : 0);
            due("6: reason for " + tickets[i], x.windowOf(1, 9), reasons[i]);
        }
        due("6: sent away", x.windowOf(1, 8), 5);
        due("6: paid", x.windowOf(1, 7), 1);
        due("6: nothing at window 0", x.windowOf(0, 8), 0);
    }

    private static void oneCustomerAWindowAndTick() {
        TicketWindows x = drawn(0);
        x.come(0, 49);
        x.come(0, 40);
        x.come(0, 9);
        due("6: the first one", x.pass(1), 16);
        due("6: two wait", x.windowOf(0, 0), 2);
        due("6: the next one", x.windowOf(0, 1), 40);
        due("6: the second one", x.pass(1), 12);
        due("6: the third one", x.pass(1), 8);
        due("6: marks", x.windowOf(0, 5), 3);
        due("6: its coins", x.windowOf(0, 6), 36);
    }

    private static void marksTakeTheirTime() {
        TicketWindows x = drawn(0);
        x.set(1, 2);
        x.come(1, 49);
        x.pass(1);
        due("6: its own mark at once", x.ticketOf(49, 5), 2);
        due("6: two marks on their way", x.count(1), 2);
        x.pass(1);
        due("6: not yet", x.ticketOf(49, 5), 2);
        x.come(0, 49);
        due("6: a mark comes before the row", x.pass(1), 0);
        due("6: sent away by the mark", x.windowOf(0, 9), 4);
        due("6: all have the mark", x.ticketOf(49, 5), 7);
        due("6: none on its way", x.count(1), 0);
        due("6: marks of window 2", x.windowOf(2, 5), 1);
    }

    private static void travelIsThatOfTheSending() {
        TicketWindows x = drawn(0);
        x.set(1, 9);
        x.come(1, 49);
        x.pass(1);
        x.set(1, 1);
        x.come(1, 40);
        x.pass(2);
        due("6: the later one comes first", x.ticketOf(40, 5), 7);
        due("6: the earlier one is on its way", x.ticketOf(49, 5), 2);
        x.pass(6);
        due("6: after 9 ticks of them", x.ticketOf(49, 5), 2);
        x.pass(1);
        due("6: in the tick 9", x.ticketOf(49, 5), 7);
    }

    private static void disputeOfThree() {
        TicketWindows x = drawn(0);
        x.come(0, 49);
        x.come(1, 49);
        x.come(2, 49);
        due("6: all three pay", x.pass(1), 48);
        due("6: six marks", x.count(1), 6);
        due("6: paid more than once", x.count(9), 1);
        x.pass(2);
        due("6: none opened before the marks come", x.count(7), 0);
        x.pass(1);
        due("6: one opened for all", x.count(7), 1);
        due("6: settled in the same tick", x.count(8), 0);
        due("6: two called back", x.ticketOf(49, 4), 2);
        due("6: paid three times all the same", x.ticketOf(49, 3), 3);
        due("6: coins called back", x.count(3), 32);
        due("6: what a window paid stays", x.windowOf(2, 6), 16);
        due("6: still paid more than once", x.count(9), 1);
    }

    private static void disputeOpensAgain() {
        TicketWindows x = drawn(0);
        x.come(0, 49);
        x.pass(1);
        x.set(1, 5);
        x.come(1, 49);
        x.pass(1);
        x.pass(2);
        due("6: the mark of window 0 came", x.count(7), 1);
        due("6: one called back", x.count(6), 1);
        x.pass(3);
        due("6: the mark of window 1 came, it was called back", x.count(7), 2);
        due("6: settled too", x.count(8), 0);
        due("6: nothing more called back", x.count(6), 1);
        due("6: coins called back", x.count(3), 16);
    }

    private static void oneDisputeATick() {
        TicketWindows x = drawn(0);
        x.set(1, 2);
        x.come(0, 49);
        x.come(1, 40);
        x.come(0, 40);
        x.come(1, 49);
        due("6: all paid", x.pass(2), 56);
        x.pass(1);
        due("6: the marks of the first tick find both paid", x.count(7), 2);
        due("6: one is open", x.count(8), 1);
        due("6: 49 went to window 1 first", x.ticketOf(49, 8), 0);
        due("6: 40 is open", x.ticketOf(40, 8), 1);
        due("6: of 49 one is called back", x.ticketOf(49, 4), 1);
        due("6: of 40 none yet", x.ticketOf(40, 4), 0);
        x.pass(1);
        due("6: 49 opened again behind 40", x.count(7), 3);
        due("6: 40 is settled", x.ticketOf(40, 4), 1);
        due("6: 49 waits for the clerk", x.ticketOf(49, 8), 1);
        x.pass(1);
        due("6: all settled", x.count(8), 0);
        due("6: coins called back", x.count(3), 28);
    }

    private static void homePaysAtOnce() {
        TicketWindows x = drawn(1);
        x.come(1, 49);
        due("6: 49 is at home at window 1", x.pass(1), 16);
        due("6: no question", x.count(1), 2);
        due("6: not lent", x.ticketOf(49, 6), 0);
    }

    private static void homeIsAsked() {
        TicketWindows x = drawn(1);
        x.come(0, 49);
        due("6: nothing paid yet", x.pass(1), 0);
        due("6: it waits", x.windowOf(0, 2), 1);
        due("6: for 49", x.windowOf(0, 3), 49);
        due("6: for a tick by now", x.windowOf(0, 4), 1);
        due("6: a question", x.count(1), 1);
        x.pass(2);
        due("6: the home does not know yet", x.ticketOf(49, 6), 0);
        x.pass(1);
        due("6: lent", x.ticketOf(49, 6), 1);
        due("6: an answer", x.count(1), 1);
        due("6: waited", x.windowOf(0, 4), 4);
        due("6: not in the ticks 4 and 5", x.pass(2), 0);
        due("6: in the tick 6", x.pass(1), 16);
        due("6: free", x.windowOf(0, 2), 0);
        due("6: for none", x.windowOf(0, 3), TicketWindows.NONE);
        due("6: no ticks", x.windowOf(0, 4), 0);
        due("6: it stays lent", x.ticketOf(49, 6), 1);
        due("6: marks are sent", x.count(1), 2);
    }

    private static void homeWithAMarkRefuses() {
        TicketWindows x = drawn(1);
        x.come(0, 49);
        x.come(1, 49);
        due("6: the home pays", x.pass(1), 16);
        x.pass(5);
        due("6: still waiting", x.windowOf(0, 2), 1);
        due("6: its mark does not end it", x.ticketOf(49, 5), 7);
        due("6: refused", x.pass(1), 0);
        due("6: reason", x.windowOf(0, 9), 5);
        due("6: never lent", x.ticketOf(49, 6), 0);
        due("6: paid once", x.ticketOf(49, 3), 1);
    }

    private static void homeThatHasLentRefuses() {
        TicketWindows x = drawn(1);
        x.come(2, 49);
        x.pass(1);
        x.come(0, 49);
        due("6: to window 2", x.pass(6), 16);
        due("6: window 0 still waits", x.windowOf(0, 2), 1);
        due("6: no more", x.pass(1), 0);
        due("6: reason", x.windowOf(0, 9), 5);
        due("6: lent", x.ticketOf(49, 6), 1);
    }

    private static void homeDoesNotPayWhatItLent() {
        TicketWindows x = drawn(1);
        x.come(0, 49);
        x.pass(4);
        x.come(1, 49);
        due("20: why at home", x.why(1, 49), 5);
        x.pass(1);
        due("6: reason at home", x.windowOf(1, 9), 5);
        due("6: the asker is paid", x.pass(2), 16);
    }

    private static void waitingIsGivenUp() {
        TicketWindows x = drawn(1);
        x.set(2, 4);
        x.come(0, 49);
        x.come(0, 40);
        x.come(0, 9);
        x.pass(4);
        due("6: waits for 4 ticks", x.windowOf(0, 4), 4);
        due("6: lent", x.ticketOf(49, 6), 1);
        x.pass(1);
        due("6: given up", x.windowOf(0, 9), 6);
        due("6: the next one asks in the same tick", x.windowOf(0, 3), 40);
        due("6: it has waited", x.windowOf(0, 4), 1);
        due("6: still lent", x.ticketOf(49, 6), 1);
        x.pass(1);
        due("6: a yes is on its way", x.ticketOf(49, 6), 1);
        due("6: nothing is paid by it", x.pass(1), 0);
        due("6: it gives the ticket back", x.ticketOf(49, 6), 0);
        due("6: it waits for 40 still", x.windowOf(0, 3), 40);
        due("6: sent away", x.windowOf(0, 8), 1);
        due("6: the home pays 49 then", x.come(1, 49) + x.pass(1), 17);
    }

    private static void patienceIsThatOfTheMoment() {
        TicketWindows x = drawn(1);
        x.set(1, 9);
        x.come(0, 49);
        x.pass(6);
        due("6: it waits", x.windowOf(0, 4), 6);
        x.set(2, 2);
        x.pass(1);
        due("6: or more", x.windowOf(0, 9), 6);
        due("6: free", x.windowOf(0, 2), 0);
        x.set(2, 20);
        x.set(1, 1);
        x.come(0, 40);
        x.pass(1);
        due("6: a tick", x.windowOf(0, 4), 1);
        x.pass(2);
        due("6: 40 is paid", x.windowOf(0, 6), 12);
    }

    /** The answer to the first question comes when the window waits for the ticket once more. */
    private static void secondQuestionForTheSameTicket() {
        TicketWindows x = drawn(1);
        x.set(2, 4);
        x.come(0, 49);
        x.come(0, 49);
        x.pass(5);
        due("6: the second one asks", x.windowOf(0, 4), 1);
        due("6: paid by the first answer", x.pass(2), 16);
        x.pass(4);
        due("6: the answer to the second is no", x.count(1), 0);
        due("6: nobody else is sent away", x.windowOf(0, 8), 1);
        due("6: lent still", x.ticketOf(49, 6), 1);
    }

    private static void answerAndRowInOneTick() {
        TicketWindows x = drawn(1);
        x.come(0, 49);
        x.come(0, 9);
        x.pass(6);
        due("6: 9 is at home here: both in one tick", x.pass(1), 24);
        due("6: two paid", x.windowOf(0, 7), 2);
    }

    private static void ruleTwoCallsItOut() {
        TicketWindows x = drawn(2);
        x.come(0, 49);
        x.come(1, 49);
        x.come(2, 49);
        due("6: the first window only", x.pass(1), 16);
        due("6: window 1 asked around", x.windowOf(1, 9), 5);
        due("6: window 2 too", x.windowOf(2, 9), 5);
        due("6: the marks are sent all the same", x.count(1), 2);
        x.come(0, 49);
        x.pass(1);
        due("6: its own mark is reason 4", x.windowOf(0, 9), 4);
        x.come(1, 40);
        due("6: a window alone", x.pass(1), 12);
    }

    /** Phase 1 pays by the answer, rule 0 pays in the same tick: the lower window's counts. */
    private static void ruleTwoPaysTwiceAfterAQuestion() {
        TicketWindows x = drawn(1);
        x.come(2, 49);
        x.pass(6);
        x.set(0, 0);
        x.come(0, 49);
        due("6: paid twice in one tick", x.pass(1), 32);
        due("6: once each", x.windowOf(0, 7) * 10 + x.windowOf(2, 7), 11);
        x.pass(3);
        due("6: one called back", x.ticketOf(49, 4), 1);
        due("19: paid", x.paid(true), 16);
        due("19: paid", x.paid(false), 16);
    }
}
