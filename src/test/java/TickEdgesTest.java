/**
 * Terms, WINDOWS and A TICK, and what promises 4 to 7 and 17 say of them: a test for each sentence
 * that names an edge. The sentence stands above its test.
 */
public final class TickEdgesTest {
    private static final Check CHECK = new Check("TickEdgesTest");
    private static final int UNKNOWN = TicketWindows.UNKNOWN;
    private static final int BAD_VALUE = TicketWindows.BAD_VALUE;
    private static final int FULL = TicketWindows.FULL;
    private static final int NONE = TicketWindows.NONE;

    public static void main(String[] args) {
        eightWaitAtMost();
        eightWaitBesideTheWaitingOne();
        unsoldTicketsAndCopies();
        homeIsNumberModuloThree();
        settingsAtTheirEnds();
        everyMessageOfTheFirstTickets();
        everyMessageOfTheLastTickets();
        homeThatHasPaidRefuses();
        messagesInOrderOfWindows();
        messagesInOrderOfSending();
        laterOneComesEarlier();
        markOpensADispute();
        markThoughCalledBack();
        markWhileOneIsOpen();
        questionBehindAMark();
        questionBeforeAMark();
        homeAnswersWhileItWaits();
        yesGivesBackAtOnce();
        questionBeforeTheTicketIsBack();
        noAtAFreeWindow();
        noAtAWindowThatWaitsForAnother();
        yesAtAWindowThatWaitsForAnother();
        freeThenForTheNext();
        patienceToTheTick();
        answerInTheLastTick();
        patienceOfOne();
        patienceCutShort();
        emptyRows();
        clerkGoesByOpening();
        clerkCallsBackOnce();
        travelOfOneAndOfNine();
        ticksOneAndNinetyNine();
        lastTickOfAll();
        leaveFromFullRows();
        CHECK.finish();
    }

    private static void due(String call, long got, long want) {
        CHECK.due(call, got, want);
    }

    /** Draw 0 (winning 49) with these tickets, of which n * 10 coins are the pool. */
    private static TicketWindows drawn(int rule, int... tickets) {
        TicketWindows x = new TicketWindows();
        for (int ticket : tickets) {
            x.sell(ticket);
        }
        x.draw(0);
        x.set(0, rule);
        return x;
    }

    private static int payments(TicketWindows x) {
        return 100 * x.windowOf(0, 7) + 10 * x.windowOf(1, 7) + x.windowOf(2, 7);
    }

    /** "customers wait in a row, at most 8": each row has its own end. */
    private static void eightWaitAtMost() {
        TicketWindows x = new TicketWindows();
        for (int window = 0; window < 3; window++) {
            for (int i = 1; i <= 8; i++) {
                due("come(" + window + ", " + i + ")", x.come(window, 10 * window + i), i);
            }
            due("the ninth", x.come(window, 9), FULL);
            due("row", x.windowOf(window, 0), 8);
            due("the first one", x.windowOf(window, 1), 10 * window + 1);
        }
        due("all rows", x.count(10), 24);
        due("a wrong window first", x.come(3, 0), UNKNOWN);
        due("a wrong ticket first", x.come(2, 600), UNKNOWN);
        x.pass(1);
        for (int window = 0; window < 3; window++) {
            due("there is room again", x.come(window, 599), 8);
            due("the ninth", x.come(window, 599), FULL);
        }
        for (int window = 0; window < 3; window++) {
            for (int i = 2; i <= 8; i++) {
                due("in their order", x.windowOf(window, 1), 10 * window + i);
                if (window == 2) {
                    x.pass(1);
                } else {
                    x.leave(10 * window + i);
                }
            }
        }
        due("the last one", x.windowOf(2, 1), 599);
    }

    /** "how many wait there then (the one whose window waits for an answer aside)" */
    private static void eightWaitBesideTheWaitingOne() {
        TicketWindows x = drawn(1, 49);
        x.come(2, 49);
        x.pass(1);
        for (int i = 1; i <= 8; i++) {
            due("come(2, 49)", x.come(2, 49), i);
        }
        due("the ninth beside it", x.come(2, 49), FULL);
        due("row", x.windowOf(2, 0), 8);
        due("waits", x.windowOf(2, 2), 1);
        due("customers who wait with it", x.ticketOf(49, 7), 8);
    }

    /** "each with a ticket (which may not be sold, or be a copy)" */
    private static void unsoldTicketsAndCopies() {
        TicketWindows x = drawn(0, 49);
        due("not sold", x.come(0, 48), 1);
        due("a copy", x.come(0, 49), 2);
        due("a copy in the same row", x.come(0, 49), 3);
        due("a copy in another row", x.come(1, 49), 1);
        due("three of them", x.ticketOf(49, 7), 3);
        due("none for the unsold one", x.pass(1), 4);
        due("reason", x.windowOf(0, 9), 1);
        due("the other copy is paid", x.pass(1), 4);
        x.pass(1);
        due("the copy at the same window is not", x.windowOf(0, 9), 4);
        due("payments", payments(x), 110);
    }

    /** "The home of a ticket is the window (its number) modulo 3" */
    private static void homeIsNumberModuloThree() {
        int[] tickets = {540, 541, 542, 543, 599, 549};
        int[] homes = {0, 1, 2, 0, 2, 0};
        for (int i = 0; i < tickets.length; i++) {
            TicketWindows x = new TicketWindows();
            x.sell(tickets[i]);
            x.draw(5);
            x.set(0, 1);
            for (int window = 0; window < 3; window++) {
                x.come(window, tickets[i]);
            }
            x.pass(1);
            for (int window = 0; window < 3; window++) {
                due("the home of " + tickets[i] + " pays", x.windowOf(window, 7),
                        window == homes[i] ? 1 : 0);
                due("the others ask", x.windowOf(window, 2), window == homes[i] ? 0 : 1);
            }
        }
    }

    /** The third draw wins 5: the tickets 0 to 9 have prizes. */
    private static void everyMessageOfTheFirstTickets() {
        for (int ticket = 0; ticket < 10; ticket++) {
            everyMessageOf(ticket, 0);
        }
    }

    /** The first draw wins 49, that is 549. */
    private static void everyMessageOfTheLastTickets() {
        for (int ticket : new int[] {599, 589, 579, 569, 559, 549, 548}) {
            everyMessageOf(ticket, 5);
        }
    }

    private static void everyMessageOf(int ticket, int draw) {
        int home = ticket % 3;
        int first = home == 0 ? 1 : 0;
        int second = 3 - home - first;
        TicketWindows x = new TicketWindows();
        if (draw == 0) {
            x.draw(1);
            x.draw(2);
        }
        x.sell(ticket);
        x.draw(draw);
        int prize = x.ticketOf(ticket, 2);
        due("a prize of 10 coins", prize, 5 - x.ticketOf(ticket, 1));
        x.set(0, 1);
        x.set(2, 1);
        x.come(second, ticket);
        x.pass(4);
        due(ticket + " is lent", x.ticketOf(ticket, 6), 1);
        due("why at its home", x.why(home, ticket), 5);
        due("why at another", x.why(first, ticket), 0);
        x.come(home, ticket);
        x.pass(1);
        due("its home does not pay what it lent", x.windowOf(home, 9), 5);
        x.pass(2);
        due(ticket + " is given back", x.ticketOf(ticket, 6), 0);
        due("given up", x.windowOf(second, 9), 6);
        x.set(2, 12);
        x.come(first, ticket);
        x.come(second, ticket);
        due("both ask", x.pass(6), 0);
        due(ticket + " is paid by a yes", x.pass(1), prize);
        due("at " + first, x.windowOf(first, 7), 1);
        due("a no at " + second, x.windowOf(second, 9), 5);
        x.pass(3);
        due("all have the mark of " + ticket, x.ticketOf(ticket, 5), 7);
        due("no dispute", x.count(7), 0);
        x.come(home, ticket);
        x.pass(1);
        due("its home has it too", x.windowOf(home, 9), 4);
        due("paid once", x.paid(true), prize);
    }

    /** Each home pays, and refuses the question that came before its mark came to the others. */
    private static void homeThatHasPaidRefuses() {
        for (int ticket : new int[] {599, 549, 548, 547, 546, 545, 544, 543, 542, 541, 540}) {
            TicketWindows x = new TicketWindows();
            x.sell(ticket);
            x.draw(5);
            x.set(0, 1);
            int home = ticket % 3;
            for (int window = 0; window < 3; window++) {
                x.come(window, ticket);
            }
            due("its home pays", x.pass(1), x.ticketOf(ticket, 2));
            due("nobody else", x.pass(9), 0);
            due(ticket + " was not lent", x.ticketOf(ticket, 6), 0);
            for (int window = 0; window < 3; window++) {
                due("the others are refused", x.windowOf(window, 9), window == home ? 0 : 5);
            }
        }
    }

    /** "0 the rule (0 to 2; 0), 1 the ticks that a message takes (1 to 9; 3), 2 the ticks that a
     *  customer waits at most for an answer (1 to 20; 12)" */
    private static void settingsAtTheirEnds() {
        int[][] ends = {{0, 2, 0}, {1, 9, 3}, {1, 20, 12}};
        for (int which = 0; which < 3; which++) {
            TicketWindows x = new TicketWindows();
            int least = ends[which][0];
            int most = ends[which][1];
            int first = ends[which][2];
            due("first value", x.count(14 + which), first);
            due("as it is", x.set(which, first), NONE);
            due("too small", x.set(which, least - 1), BAD_VALUE);
            due("too large", x.set(which, most + 1), BAD_VALUE);
            due("no state", x.count(12), 0);
            due("the largest", x.set(which, most), first);
            due("too large", x.set(which, most + 1), BAD_VALUE);
            due("the largest again", x.set(which, most), NONE);
            due("the least", x.set(which, least), most);
            due("too small", x.set(which, least - 1), BAD_VALUE);
            due("the least again", x.set(which, least), NONE);
            due("it is the least", x.count(14 + which), least);
            due("states", x.count(12), 2);
            due("undo()", x.undo(), 1);
            due("the largest is back", x.count(14 + which), most);
        }
        TicketWindows x = new TicketWindows();
        due("no such setting", x.set(3, 1), BAD_VALUE);
        due("no such setting", x.set(-1, 1), BAD_VALUE);
        due("neither", x.set(3, 99), BAD_VALUE);
    }

    /** "The messages that are due come, in the order in which they were sent": in one tick the
     *  windows send in theirs. */
    private static void messagesInOrderOfWindows() {
        TicketWindows x = drawn(1, 49);
        x.come(2, 49);
        x.come(0, 49);
        x.pass(6);
        due("both wait", x.windowOf(0, 2) + x.windowOf(2, 2), 2);
        due("the lower one asked first", x.pass(1), 4);
        due("window 0", payments(x), 100);
        due("window 2", x.windowOf(2, 9), 5);
    }

    /** "in the order in which they were sent": not in that of their windows. */
    private static void messagesInOrderOfSending() {
        TicketWindows x = drawn(1, 49);
        x.set(1, 4);
        x.come(2, 49);
        x.pass(1);
        x.set(1, 3);
        x.come(0, 49);
        x.pass(3);
        due("two questions", x.count(1), 2);
        due("neither came", x.ticketOf(49, 6), 0);
        x.pass(1);
        due("both came in the tick 4", x.ticketOf(49, 6), 1);
        x.pass(2);
        due("in the tick 7", x.pass(1), 4);
        due("window 2 asked first", payments(x), 1);
        due("window 0", x.windowOf(0, 9), 5);
    }

    /** "A message that is sent in a tick comes by the setting 1 ticks later": the later one with
     *  less of them comes first. */
    private static void laterOneComesEarlier() {
        TicketWindows x = drawn(1, 49);
        x.set(1, 9);
        x.come(2, 49);
        x.pass(1);
        x.set(1, 1);
        x.come(0, 49);
        x.pass(2);
        due("lent", x.ticketOf(49, 6), 1);
        due("to window 0", x.pass(1), 4);
        due("payments", payments(x), 100);
        x.pass(6);
        due("window 2 waits", x.windowOf(2, 2), 1);
        x.pass(1);
        due("its answer comes one tick later", x.windowOf(2, 9), 5);
    }

    /** "if the window has paid this ticket itself ..., and the ticket has no open dispute, one is
     *  opened": not by a mark alone. */
    private static void markOpensADispute() {
        TicketWindows x = drawn(0, 49);
        x.come(0, 49);
        x.pass(4);
        due("all have the mark", x.ticketOf(49, 5), 7);
        due("no dispute", x.count(7), 0);
        TicketWindows y = drawn(0, 49);
        y.come(0, 49);
        y.come(1, 49);
        y.pass(3);
        due("no mark came yet", y.count(7), 0);
        y.pass(1);
        due("one dispute", y.count(7), 1);
        due("settled", y.count(8), 0);
    }

    /** "(also if that was called back)" */
    private static void markThoughCalledBack() {
        TicketWindows x = drawn(0, 49);
        x.set(1, 9);
        x.come(0, 49);
        x.pass(1);
        x.set(1, 1);
        x.come(1, 49);
        x.pass(2);
        due("the mark of window 1 came to window 0", x.count(7), 1);
        due("that of window 1 is called back", x.count(6), 1);
        x.pass(6);
        due("tick", x.count(0), 9);
        due("the mark of window 0 is on its way", x.count(7), 1);
        x.pass(1);
        due("it comes to window 1, whose payment was called back", x.count(7), 2);
        due("that is settled too", x.count(8), 0);
        due("but nothing more is called back", x.count(6), 1);
        due("no coins either", x.count(3), 4);
        due("no dispute is open", x.ticketOf(49, 8), 0);
    }

    /** "and the ticket has no open dispute": marks that come while one is open open none. */
    private static void markWhileOneIsOpen() {
        TicketWindows x = drawn(0, 49, 40);
        x.set(1, 2);
        for (int window = 0; window < 3; window++) {
            x.come(window, 49);
            x.come(window, 40);
        }
        x.pass(3);
        due("one for 49", x.count(7), 1);
        due("two of 49 called back", x.ticketOf(49, 4), 2);
        x.pass(1);
        due("one for 40", x.count(7), 2);
        due("two of 40 called back", x.ticketOf(40, 4), 2);
        due("none open", x.count(8), 0);
    }

    /** "if the home has not lent it, and has no mark of it" */
    private static void questionBehindAMark() {
        TicketWindows x = drawn(0, 49);
        x.set(1, 4);
        x.come(0, 49);
        x.pass(1);
        x.set(1, 3);
        x.set(0, 1);
        x.come(2, 49);
        x.pass(4);
        due("the mark came first in the same tick", x.ticketOf(49, 6), 0);
        due("an answer", x.count(1), 1);
        x.pass(2);
        due("window 2 waits", x.windowOf(2, 2), 1);
        due("no", x.pass(1), 0);
        due("reason", x.windowOf(2, 9), 5);
        due("paid once", x.ticketOf(49, 3), 1);
    }

    /** "if the home has not lent it, and has no mark of it, it lends it, and answers yes" */
    private static void questionBeforeAMark() {
        TicketWindows x = drawn(1, 49);
        x.set(1, 4);
        x.come(2, 49);
        x.pass(1);
        x.set(1, 3);
        x.set(0, 0);
        x.come(0, 49);
        due("paid by rule 0", x.pass(1), 4);
        x.pass(3);
        due("the question came first in the same tick", x.ticketOf(49, 6), 1);
        due("the mark came too", x.ticketOf(49, 5), 7);
        due("paid by the answer, though it has the mark", x.pass(3), 4);
        due("paid twice", x.count(9), 1);
        due("its own mark opened nothing", x.count(7), 0);
        x.pass(3);
        due("a mark of the other did", x.count(7), 1);
    }

    private static void homeAnswersWhileItWaits() {
        TicketWindows x = drawn(1, 49, 41);
        x.come(1, 41);
        x.come(0, 49);
        x.pass(4);
        due("the home of 49 waits", x.windowOf(1, 3), 41);
        due("it lends", x.ticketOf(49, 6), 1);
        due("the home of 41 does too", x.ticketOf(41, 6), 1);
        due("both are paid", x.pass(3), 8 + 6);
        due("payments", payments(x), 110);
    }

    /** "a yes gives the ticket back: its home has not lent it any more, at once": before the next
     *  message of this tick. */
    private static void yesGivesBackAtOnce() {
        TicketWindows x = drawn(1, 49);
        x.set(2, 1);
        x.come(0, 49);
        x.pass(2);
        due("given up", x.windowOf(0, 9), 6);
        x.set(2, 12);
        x.pass(1);
        x.come(2, 49);
        x.pass(1);
        due("lent to window 0", x.ticketOf(49, 6), 1);
        due("window 2 asks behind that answer", x.windowOf(2, 4), 1);
        x.pass(2);
        due("still lent", x.ticketOf(49, 6), 1);
        x.pass(1);
        due("given back and lent again", x.ticketOf(49, 6), 1);
        due("window 0 is not paid", payments(x), 0);
        due("window 2 is", x.pass(3), 4);
        due("payments", payments(x), 1);
    }

    private static void questionBeforeTheTicketIsBack() {
        TicketWindows x = drawn(1, 49);
        x.set(2, 1);
        x.come(0, 49);
        x.pass(2);
        x.set(2, 12);
        x.set(1, 4);
        x.come(2, 49);
        x.pass(1);
        x.set(1, 3);
        x.pass(3);
        due("lent to window 0", x.ticketOf(49, 6), 1);
        x.pass(1);
        due("refused to window 2, then given back", x.ticketOf(49, 6), 0);
        x.pass(2);
        due("window 2 waits", x.windowOf(2, 2), 1);
        due("it is sent away", x.pass(1), 0);
        due("reason", x.windowOf(2, 9), 5);
        due("nobody was paid", x.count(5), 0);
    }

    /** "If the window does not wait for one for this ticket, a yes gives the ticket back": a no does
     *  nothing. */
    private static void noAtAFreeWindow() {
        TicketWindows x = askedTwice();
        due("given up", x.windowOf(0, 9), 6);
        due("the no is on its way", x.count(1), 3);
        x.pass(1);
        due("the no came", x.count(1), 2);
        due("nobody else is sent away", x.windowOf(0, 8), 1);
        due("reason", x.windowOf(0, 9), 6);
        due("lent to window 2 all the same", x.ticketOf(49, 6), 1);
    }

    private static void noAtAWindowThatWaitsForAnother() {
        TicketWindows x = askedTwice();
        x.undo();
        x.come(0, 40);
        x.pass(1);
        due("it waits for 40", x.windowOf(0, 3), 40);
        x.pass(1);
        due("the no for 49 came, it waits still", x.windowOf(0, 3), 40);
        due("for two ticks", x.windowOf(0, 4), 2);
        due("nobody else is sent away", x.windowOf(0, 8), 1);
        due("lent", x.ticketOf(49, 6), 1);
    }

    /** Window 2 asks for 49 and is paid in the tick 6; window 0 gives up then, and a no comes in the
     *  tick 7. The last act is the tick 6. */
    private static TicketWindows askedTwice() {
        TicketWindows x = drawn(1, 49, 40);
        x.come(2, 49);
        x.pass(1);
        x.come(0, 49);
        x.pass(5);
        x.set(2, 5);
        due("window 2 is paid", x.pass(1), 8);
        return x;
    }

    private static void yesAtAWindowThatWaitsForAnother() {
        TicketWindows x = drawn(1, 49, 40);
        x.set(2, 2);
        x.come(0, 49);
        x.pass(3);
        x.set(2, 12);
        x.come(0, 40);
        x.pass(3);
        due("it waits for 40", x.windowOf(0, 3), 40);
        due("49 is lent", x.ticketOf(49, 6), 1);
        due("the yes for 49 pays nothing", x.pass(1), 0);
        due("49 is back", x.ticketOf(49, 6), 0);
        due("it waits for 40 still", x.windowOf(0, 3), 40);
        due("40 is lent", x.ticketOf(40, 6), 1);
        due("and paid", x.pass(3), 6);
    }

    /** "the window is free then": its next customer comes in the same tick. */
    private static void freeThenForTheNext() {
        TicketWindows x = drawn(1, 49, 42);
        x.come(0, 49);
        x.come(0, 42);
        x.come(1, 49);
        x.pass(6);
        due("42 waits behind", x.windowOf(0, 0), 1);
        due("a no, and the next one is paid at home", x.pass(1), 6);
        due("sent away", x.windowOf(0, 9), 5);
        due("row", x.windowOf(0, 0), 0);
    }

    /** "one that waits for an answer for as many ticks as the setting 2, or more, sends its customer
     *  away (reason 6)" */
    private static void patienceToTheTick() {
        TicketWindows x = drawn(1, 49);
        x.set(2, 5);
        x.come(0, 49);
        for (int waited = 1; waited <= 5; waited++) {
            x.pass(1);
            due("waited", x.windowOf(0, 4), waited);
            due("nobody is sent away", x.windowOf(0, 8), 0);
        }
        x.pass(1);
        due("in the tick 5", x.windowOf(0, 9), 6);
        due("free", x.windowOf(0, 2), 0);
        due("for no ticks", x.windowOf(0, 4), 0);
        due("for no ticket", x.windowOf(0, 3), NONE);
        x.set(1, 9);
        x.set(2, 17);
        x.pass(3);
        x.come(2, 49);
        x.pass(17);
        due("waited for 17", x.windowOf(2, 4), 17);
        x.pass(1);
        due("in the tick 17 of waiting", x.windowOf(2, 9), 6);
    }

    /** The messages of a tick come before its windows: an answer in the last tick is in time. */
    private static void answerInTheLastTick() {
        TicketWindows x = drawn(1, 49);
        x.set(2, 6);
        x.come(0, 49);
        x.pass(6);
        due("waited", x.windowOf(0, 4), 6);
        due("paid in the tick 6", x.pass(1), 4);
        due("nobody is sent away", x.windowOf(0, 8), 0);
        TicketWindows y = drawn(1, 49);
        y.set(1, 9);
        y.set(2, 18);
        y.come(0, 49);
        due("waits", y.pass(18), 0);
        due("paid in the tick 18", y.pass(1), 4);
        y.undo();
        y.set(2, 20);
        due("with more patience too", y.pass(1), 4);
    }

    /** "(for 0 ticks in this tick)", and the least patience. */
    private static void patienceOfOne() {
        TicketWindows x = drawn(1, 49);
        x.set(2, 1);
        x.come(2, 49);
        x.come(2, 599);
        x.pass(1);
        due("it waits", x.windowOf(2, 2), 1);
        due("for one tick by now", x.windowOf(2, 4), 1);
        x.pass(1);
        due("given up, and the next one sent away", x.windowOf(2, 8), 2);
        due("reason of the latest", x.windowOf(2, 9), 1);
        x.undo();
        x.set(1, 1);
        x.pass(1);
        due("the answer takes two ticks at least", x.windowOf(2, 8), 2);
    }

    /** "or more": the setting is made less while a window waits. */
    private static void patienceCutShort() {
        TicketWindows x = drawn(1, 49);
        x.set(1, 9);
        x.come(2, 49);
        x.pass(8);
        due("waited", x.windowOf(2, 4), 8);
        x.set(2, 9);
        x.pass(1);
        due("not yet", x.windowOf(2, 4), 9);
        x.set(2, 1);
        x.pass(1);
        due("by far", x.windowOf(2, 9), 6);
    }

    /** "if it is free and a customer waits" */
    private static void emptyRows() {
        TicketWindows x = drawn(0, 49);
        due("nobody comes", x.pass(99), 0);
        for (int window = 0; window < 3; window++) {
            due("nobody is sent away", x.windowOf(window, 8), 0);
            due("no reason", x.windowOf(window, 9), 0);
            due("first one", x.windowOf(window, 1), NONE);
        }
        x.come(1, 49);
        due("one comes", x.pass(1), 4);
        due("nobody behind", x.pass(1), 0);
        due("no reason", x.windowOf(1, 9), 0);
    }

    /** "The clerk settles the dispute that was opened first, if there is one" */
    private static void clerkGoesByOpening() {
        TicketWindows x = drawn(0, 49, 40, 9);
        Check.order(x, "c0:9;c1:40;c2:49;t1");
        Check.order(x, "c1:9;c2:40;c0:49;t2");
        due("none yet", x.count(7), 0);
        x.pass(1);
        int[] order = {9, 40, 49};
        due("three opened in one tick", x.count(7), 3);
        due("by the order of the marks", x.count(8), 2);
        for (int settled = 1; settled <= 3; settled++) {
            for (int i = 0; i < 3; i++) {
                due("called back of " + order[i], x.ticketOf(order[i], 4), i < settled ? 1 : 0);
            }
            x.pass(1);
        }
        x.pass(9);
        due("9 was settled when the other marks came, 40 and 49 were open", x.count(7), 4);
        due("none open", x.count(8), 0);
        due("payments called back", x.count(6), 3);
    }

    /** "of the payments of the ticket that have not been called back the first one counts ...; all
     *  others are called back" */
    private static void clerkCallsBackOnce() {
        TicketWindows x = drawn(1, 49);
        x.set(1, 1);
        x.come(2, 49);
        x.pass(1);
        x.set(0, 0);
        x.set(1, 9);
        x.pass(1);
        due("a yes is on its way", x.ticketOf(49, 6), 1);
        x.set(1, 1);
        Check.order(x, "c0:49;c1:49;t1");
        due("two payments", x.count(5), 2);
        x.pass(1);
        due("one dispute", x.count(7), 1);
        due("one called back", x.count(6), 1);
        due("coins", x.count(3), 4);
        x.pass(6);
        due("the third payment", x.pass(1), 4);
        x.pass(1);
        due("another dispute", x.count(7), 2);
        due("the third one is called back", x.count(6), 2);
        due("coins", x.count(3), 8);
        due("of three", x.ticketOf(49, 3) * 10 + x.ticketOf(49, 4), 32);
        due("one stands", x.paid(true), 4);
        due("one stands", x.paid(false), 4);
        due("paid more than once, one ticket", x.count(9), 1);
    }

    /** "A message that is sent in a tick comes by the setting 1 ticks later." */
    private static void travelOfOneAndOfNine() {
        for (int travel = 1; travel <= 9; travel++) {
            TicketWindows x = drawn(0, 49);
            x.set(1, travel);
            x.come(1, 49);
            x.pass(travel);
            due("not before " + travel + " ticks", x.ticketOf(49, 5), 2);
            due("two on their way", x.count(1), 2);
            x.pass(1);
            due("after " + travel + " ticks", x.ticketOf(49, 5), 7);
            due("none on its way", x.count(1), 0);
        }
    }

    /** "`ticks`: 1 to 99" */
    private static void ticksOneAndNinetyNine() {
        TicketWindows x = drawn(0, 49);
        x.come(0, 49);
        due("pass(0)", x.pass(0), BAD_VALUE);
        due("pass(100)", x.pass(100), BAD_VALUE);
        due("no tick passed", x.windowOf(0, 0), 1);
        due("pass(1)", x.pass(1), 4);
        due("tick", x.count(0), 1);
        due("pass(99)", x.pass(99), 0);
        due("tick", x.count(0), 100);
    }

    /** "FULL if the tick would be more than 9999" */
    private static void lastTickOfAll() {
        TicketWindows x = drawn(0, 49, 40);
        for (int i = 0; i < 100; i++) {
            x.pass(99);
        }
        x.pass(98);
        due("tick", x.count(0), 9998);
        x.come(0, 49);
        due("pass(2)", x.pass(2), FULL);
        due("pass(99)", x.pass(99), FULL);
        due("pass(0)", x.pass(0), BAD_VALUE);
        due("a text that goes too far", Check.order(x, "t1;t1"), FULL);
        due("tick", x.count(0), 9998);
        due("row", x.windowOf(0, 0), 1);
        due("pass(1)", x.pass(1), 8);
        due("tick", x.count(0), 9999);
        due("pass(1)", x.pass(1), FULL);
        x.come(1, 40);
        due("what would be has no last tick", x.ifRule(0, 1, 0), 1);
        due("keep()", x.keep(), 9999);
        due("restore()", x.restore(), 9999);
        due("undo()", x.undo(), 3);
        due("a text to the end", Check.order(x, "s1"), TicketWindows.NOT_POSSIBLE);
        x.undo();
        x.undo();
        due("before the last tick", x.count(0), 9998);
        due("a text to the last tick", Check.order(x, "t1"), 1);
    }

    /** "All customers with a ticket leave their rows": from the first place to the eighth. */
    private static void leaveFromFullRows() {
        TicketWindows x = new TicketWindows();
        for (int window = 0; window < 3; window++) {
            for (int i = 0; i < 8; i++) {
                x.come(window, window == 1 || i == 0 || i == 7 ? 599 : i);
            }
        }
        due("leave(599)", x.leave(599), 12);
        due("leave(599)", x.leave(599), NONE);
        due("row 0", x.windowOf(0, 0), 6);
        due("row 1", x.windowOf(1, 0), 0);
        due("row 2", x.windowOf(2, 0), 6);
        due("first of row 1", x.windowOf(1, 1), NONE);
        due("first of row 2", x.windowOf(2, 1), 1);
        due("leave(6), the last ones", x.leave(6), 2);
        due("undo()", x.undo(), 3);
        due("undo()", x.undo(), 2);
        due("leave(599) again", x.leave(599), 12);
    }
}
