/** Random runs of at most 512 calls, each answer compared with that of the naive reference. */
public final class RandomRunsTest {
    private static final int CALLS = 512;
    private static final int RUNS = 1500;

    private final Check check;
    private final int run;
    private final TicketWindows office = new TicketWindows();
    private final Reference reference = new Reference();
    private final int[] hot = new int[6];
    private long seed;
    private int calls;

    private RandomRunsTest(Check check, int run) {
        this.check = check;
        this.run = run;
        this.seed = run * 7919L + 17;
    }

    public static void main(String[] args) {
        Check check = new Check("RandomRunsTest");
        for (int run = 0; run < RUNS && !check.failed(); run++) {
            new RandomRunsTest(check, run).go();
        }
        check.finish();
    }

    private int below(int bound) {
        seed = seed * 6364136223846793005L + 1442695040888963407L;
        return (int) ((seed >>> 33) % bound);
    }

    private void same(String call, int got, int want) {
        calls++;
        check.due("run " + run + ", call " + calls + ", " + call, got, want);
    }

    private void go() {
        if (run % 5 != 0) {
            sellAndDraw();
        }
        while (calls < CALLS && !check.failed()) {
            step();
        }
    }

    /** The first winning tickets are known: many tickets of their tens and ones are sold. */
    private void sellAndDraw() {
        int[] winning = {49, 49, 5, 44, 83, 19};
        int draws = 1 + below(4);
        for (int draw = 0; draw < draws; draw++) {
            int won = 100 * draw + winning[draw];
            int sold = 2 + below(12);
            for (int i = 0; i < sold; i++) {
                int ticket = won;
                if (i % 2 == 1) {
                    ticket = won / 10 * 10 + below(10);
                } else if (i > 0) {
                    ticket = 100 * draw + 10 * below(10) + won % 10;
                }
                same("sell(" + ticket + ")", office.sell(ticket), reference.sell(ticket));
                hot[below(6)] = ticket;
            }
            same("draw(" + draw + ")", office.draw(draw), reference.draw(draw));
        }
    }

    private int anyNumber() {
        int[] numbers = {-1, 600, Integer.MIN_VALUE, Integer.MAX_VALUE, -600, 1000, 3, 6, 9, 17};
        return numbers[below(numbers.length)];
    }

    private int someTicket() {
        int which = below(20);
        if (which == 0) {
            return anyNumber();
        }
        return which < 4 ? below(600) : hot[below(6)];
    }

    private int some(int bound) {
        return below(25) == 0 ? anyNumber() : below(bound);
    }

    private void step() {
        int which = below(100);
        if (which < 30) {
            come();
        } else if (which < 55) {
            pass();
        } else if (which < 62) {
            set();
        } else if (which < 78) {
            tell();
        } else if (which < 90) {
            rareAct();
        } else if (which < 97) {
            wouldBe();
        } else {
            text();
        }
    }

    private void come() {
        int window = some(3);
        int ticket = someTicket();
        same("come(" + window + ", " + ticket + ")", office.come(window, ticket),
                reference.come(window, ticket));
    }

    private void pass() {
        int ticks = below(4) == 0 ? some(101) : 1 + below(4);
        same("pass(" + ticks + ")", office.pass(ticks), reference.pass(ticks));
    }

    private void set() {
        int which = some(3);
        int value = some(which == 0 ? 4 : which == 1 ? 11 : 22);
        same("set(" + which + ", " + value + ")", office.set(which, value),
                reference.set(which, value));
    }

    private void rareAct() {
        int which = below(12);
        if (which < 3) {
            int ticket = someTicket();
            same("sell(" + ticket + ")", office.sell(ticket), reference.sell(ticket));
        } else if (which < 4) {
            int draw = some(7);
            same("draw(" + draw + ")", office.draw(draw), reference.draw(draw));
        } else if (which < 6) {
            int ticket = someTicket();
            same("leave(" + ticket + ")", office.leave(ticket), reference.leave(ticket));
        } else if (which < 9) {
            same("undo()", office.undo(), reference.undo());
        } else if (which < 10) {
            same("keep()", office.keep(), reference.keep());
        } else if (which < 11) {
            same("restore()", office.restore(), reference.restore());
        } else {
            same("doAll()", office.doAll(), reference.doAll());
        }
    }

    private void tell() {
        int what = some(19);
        int which = below(5);
        if (which == 0) {
            int ticket = someTicket();
            same("ticketOf(" + ticket + ", " + what + ")", office.ticketOf(ticket, what),
                    reference.ticketOf(ticket, what));
        } else if (which == 1) {
            int draw = some(6);
            same("drawOf(" + draw + ", " + what + ")", office.drawOf(draw, what),
                    reference.drawOf(draw, what));
        } else if (which == 2) {
            int window = some(3);
            same("windowOf(" + window + ", " + what + ")", office.windowOf(window, what),
                    reference.windowOf(window, what));
        } else if (which == 3) {
            same("count(" + what + ")", office.count(what), reference.count(what));
        } else {
            boolean byTickets = what % 2 == 0;
            same("paid(" + byTickets + ")", office.paid(byTickets), reference.paid(byTickets));
        }
    }

    private void wouldBe() {
        int which = below(4);
        if (which == 0) {
            int window = some(3);
            int ticket = someTicket();
            same("why(" + window + ", " + ticket + ")", office.why(window, ticket),
                    reference.why(window, ticket));
        } else if (which == 1) {
            int rule = some(3);
            int ticks = below(3) == 0 ? some(100) : 1 + below(20);
            int what = some(4);
            same("ifRule(" + rule + ", " + ticks + ", " + what + ")",
                    office.ifRule(rule, ticks, what), reference.ifRule(rule, ticks, what));
        } else if (which == 2) {
            same("bestRule()", office.bestRule(), reference.bestRule());
        } else {
            same("shortest()", office.shortest(), reference.shortest());
        }
    }

    private void text() {
        if (calls > CALLS - 3) {
            return;
        }
        same("clearText()", office.clearText(), reference.clearText());
        StringBuilder text = new StringBuilder();
        int orders = 1 + below(10);
        for (int i = 0; i < orders; i++) {
            text.append(i == 0 ? "" : ";").append(someOrder());
        }
        if (below(3) == 0) {
            spoil(text);
        }
        for (int i = 0; i < text.length() && calls < CALLS - 2; i++) {
            char c = text.charAt(i);
            same("type('" + c + "')", office.type(c), reference.type(c));
        }
        same("fault()", office.fault(), reference.fault());
        same("doAll()", office.doAll(), reference.doAll());
    }

    private String someOrder() {
        int ticket = below(10) == 0 ? below(605) : hot[below(6)];
        int which = below(20);
        if (which < 12) {
            return "c" + below(3) + ":" + ticket;
        }
        if (which < 17) {
            return "t" + (1 + below(below(3) == 0 ? 99 : 5));
        }
        return which < 19 ? "s" + ticket : "d" + below(6);
    }

    private void spoil(StringBuilder text) {
        String signs = "sctd:;0123456789 x\u00e9\u2603";
        char sign = signs.charAt(below(signs.length()));
        int place = below(text.length());
        if (below(2) == 0) {
            text.setCharAt(place, sign);
        } else if (below(2) == 0) {
            text.insert(place, sign);
        } else {
            text.setLength(place);
        }
    }
}
