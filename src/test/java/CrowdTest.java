/**
 * Many messages, many disputes: full rows in every tick, each answer compared with the reference. No
 * message and no dispute may be lost, as many of them as there are.
 */
public final class CrowdTest {
    private static final Check CHECK = new Check("CrowdTest");

    private final TicketWindows office = new TicketWindows();
    private final Reference reference = new Reference();

    public static void main(String[] args) {
        for (int travel = 1; travel <= 9; travel++) {
            new CrowdTest().questionsThenPayments(travel);
            new CrowdTest().disputesInALine(travel);
        }
        new CrowdTest().mostMarks();
        CHECK.finish();
    }

    private void same(String call, int got, int want) {
        CHECK.due(call, got, want);
    }

    private void sellTens(int draw) {
        for (int i = 40; i < 50; i++) {
            same("sell", office.sell(100 * draw + i), reference.sell(100 * draw + i));
        }
        same("draw", office.draw(draw), reference.draw(draw));
    }

    private void set(int which, int value) {
        same("set", office.set(which, value), reference.set(which, value));
    }

    private void come(int window, int ticket) {
        same("come", office.come(window, ticket), reference.come(window, ticket));
    }

    private void tick() {
        same("pass(1)", office.pass(1), reference.pass(1));
        // The messages, the payments called back, the disputes opened and the open ones.
        for (int what : new int[] {1, 6, 7, 8}) {
            same("count(" + what + ")", office.count(what), reference.count(what));
        }
    }

    private void tellAll() {
        for (int ticket = 40; ticket < 50; ticket++) {
            for (int what = 3; what < 9; what++) {
                same("ticketOf(" + ticket + ", " + what + ")", office.ticketOf(ticket, what),
                        reference.ticketOf(ticket, what));
            }
        }
        same("paid(true)", office.paid(true), reference.paid(true));
        same("paid(false)", office.paid(false), reference.paid(false));
    }

    /** Every window asks in each of nine ticks and gives up in the next one; then every window pays
     *  in each of nine ticks, while the homes answer. */
    private void questionsThenPayments(int travel) {
        sellTens(0);
        set(0, 1);
        set(1, travel);
        set(2, 1);
        for (int i = 0; i < 9; i++) {
            come(0, 40);
            come(1, 41);
            come(2, 43);
            tick();
        }
        set(0, 0);
        for (int i = 0; i < 9; i++) {
            for (int window = 0; window < 3; window++) {
                come(window, 41 + i);
            }
            tick();
        }
        tellAll();
        same("bestRule()", office.bestRule(), reference.bestRule());
        for (int i = 0; i < 12; i++) {
            tick();
        }
        tellAll();
    }

    /** Three payments of each ticket: more disputes than the clerk settles. */
    private void disputesInALine(int travel) {
        sellTens(0);
        set(1, travel);
        for (int i = 0; i < 8; i++) {
            for (int window = 0; window < 3; window++) {
                come(window, 40 + (i + window * 3) % 10);
            }
        }
        for (int i = 0; i < 25; i++) {
            tick();
        }
        tellAll();
    }

    /** Nine ticks of three payments, each with two marks that take nine ticks: 54 on their way. */
    private void mostMarks() {
        sellTens(0);
        set(1, 9);
        for (int i = 0; i < 9; i++) {
            for (int window = 0; window < 3; window++) {
                come(window, 40 + i);
            }
            tick();
        }
        CHECK.due("messages on their way", office.count(1), 54);
        tick();
        CHECK.due("the first six came", office.count(1), 48);
        for (int i = 0; i < 9; i++) {
            tick();
        }
        CHECK.due("none on its way", office.count(1), 0);
        CHECK.due("nine disputes", office.count(7), 9);
        tellAll();
    }
}
