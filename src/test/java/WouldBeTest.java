/** Promises 20 to 23: why, ifRule, bestRule and shortest. */
public final class WouldBeTest {
    private static final Check CHECK = new Check("WouldBeTest");

    public static void main(String[] args) {
        why();
        whyByTheRule();
        ifRuleArguments();
        ifRule();
        ifRuleOnlyWhatComesThen();
        bestRule();
        bestRuleOfNone();
        bestRuleCountsWhatStands();
        shortest();
        shortestIsFree();
        CHECK.finish();
    }

    private static void due(String call, long got, long want) {
        CHECK.due(call, got, want);
    }

    private static TicketWindows drawn(int rule) {
        TicketWindows x = new TicketWindows();
        Check.order(x, "s49;s40;s50;d0;s149");
        x.set(0, rule);
        return x;
    }

    private static void why() {
        TicketWindows x = drawn(0);
        int[] wrong = {-1, 3, 600, Integer.MIN_VALUE, Integer.MAX_VALUE};
        for (int number : wrong) {
            due("20: why(" + number + ", 0)", x.why(number, 0), TicketWindows.UNKNOWN);
        }
        for (int number : new int[] {-1, 600, Integer.MIN_VALUE, Integer.MAX_VALUE}) {
            due("20: why(0, " + number + ")", x.why(0, number), TicketWindows.UNKNOWN);
        }
        due("20: not sold, drawn", x.why(0, 48), 1);
        due("20: not sold, not drawn", x.why(0, 599), 1);
        due("20: not drawn", x.why(0, 149), 2);
        due("20: no prize", x.why(0, 50), 3);
        due("20: paid", x.why(0, 49), 0);
        x.come(0, 49);
        x.pass(1);
        due("20: its own mark", x.why(0, 49), 4);
        due("20: no mark yet", x.why(1, 49), 0);
        x.pass(3);
        due("20: a mark by now", x.why(1, 49), 4);
        due("20: no act", x.count(12), 4);
    }

    private static void whyByTheRule() {
        TicketWindows x = drawn(2);
        x.come(0, 49);
        x.pass(1);
        due("20: rule 2, another has a mark", x.why(1, 49), 5);
        due("20: rule 2, its own", x.why(0, 49), 4);
        due("20: rule 2, no mark", x.why(1, 40), 0);
        x.set(0, 0);
        due("20: rule 0", x.why(1, 49), 0);
        x.set(0, 1);
        due("20: rule 1, home", x.why(1, 49), 0);
        due("20: rule 1, the home would be asked", x.why(2, 49), 0);
        x.come(2, 40);
        x.pass(4);
        due("20: lent, at home", x.why(1, 40), 5);
        due("20: lent, elsewhere", x.why(0, 40), 0);
        due("20: as if it were free", x.why(2, 40), 0);
        x.set(0, 2);
        due("20: rule 2 does not ask", x.why(1, 40), 0);
    }

    private static void ifRuleArguments() {
        TicketWindows x = new TicketWindows();
        int bad = TicketWindows.BAD_VALUE;
        int[] far = {-1, Integer.MIN_VALUE, Integer.MAX_VALUE};
        for (int wrong : far) {
            due("21: rule " + wrong, x.ifRule(wrong, 1, 0), bad);
            due("21: ticks " + wrong, x.ifRule(0, wrong, 0), bad);
            due("21: what " + wrong, x.ifRule(0, 1, wrong), bad);
        }
        due("21: rule 3", x.ifRule(3, 1, 0), bad);
        due("21: ticks 0", x.ifRule(0, 0, 0), bad);
        due("21: ticks 100", x.ifRule(0, 100, 0), bad);
        due("21: what 4", x.ifRule(0, 1, 4), bad);
        int[] quiet = {0, 0, 0, 100000};
        for (int rule = 0; rule < 3; rule++) {
            for (int what = 0; what < 4; what++) {
                due("21: nothing comes", x.ifRule(rule, 99, what), quiet[what]);
            }
        }
    }

    private static void would(TicketWindows x, int rule, int ticks, int... want) {
        for (int what = 0; what < 4; what++) {
            due("21: ifRule(" + rule + ", " + ticks + ", " + what + ")",
                    x.ifRule(rule, ticks, what), want[what]);
        }
    }

    private static void ifRule() {
        TicketWindows x = drawn(0);
        Check.order(x, "c0:49;c1:49;c2:49;c0:50;c1:40");
        would(x, 0, 1, 3, 1, 0, 100036);
        would(x, 0, 2, 4, 1, 1, 100045);
        would(x, 0, 4, 4, 1, 1, 100021);
        would(x, 0, 99, 4, 1, 1, 100021);
        would(x, 1, 1, 1, 0, 0, 100012);
        would(x, 1, 2, 2, 0, 0, 100021);
        would(x, 1, 6, 2, 0, 0, 100021);
        would(x, 1, 7, 2, 0, 3, 100021);
        would(x, 2, 1, 1, 0, 2, 100012);
        would(x, 2, 2, 2, 0, 3, 100021);
        due("21: the rule stays", x.count(14), 0);
        due("21: the tick stays", x.count(0), 0);
    }

    private static void ifRuleOnlyWhatComesThen() {
        TicketWindows x = drawn(0);
        Check.order(x, "c0:49;c1:49;c2:50;t1;c2:40");
        would(x, 2, 1, 1, 1, 0, 100009);
        would(x, 2, 3, 1, 1, 0, 99997);
        would(x, 0, 3, 1, 1, 0, 99997);
        x.pass(3);
        would(x, 0, 9, 0, 1, 0, 100000);
    }

    private static void bestRule() {
        TicketWindows x = drawn(0);
        due("22: of several the lowest", x.bestRule(), 0);
        x.come(0, 40);
        due("22: one payment by each rule", x.bestRule(), 0);
        x.come(1, 40);
        due("22: rule 0 pays twice", x.bestRule(), 1);
        x.set(2, 1);
        due("22: the home still pays", x.bestRule(), 1);
        x.leave(40);
        x.come(0, 40);
        x.come(2, 40);
        due("22: the home does not answer in time", x.bestRule(), 2);
        x.leave(40);
        x.come(0, 40);
        due("22: rule 0 again", x.bestRule(), 0);
    }

    /** A window that waits gets its answer by whatever rule: paid twice by each. */
    private static void bestRuleOfNone() {
        TicketWindows x = drawn(1);
        Check.order(x, "c0:40;t4");
        x.set(0, 0);
        Check.order(x, "c2:40;t1");
        due("22: not yet", x.count(9), 0);
        due("22: by each rule there are more", x.bestRule(), TicketWindows.NONE);
        x.pass(2);
        due("22: twice by now", x.count(9), 1);
        due("22: no more than now", x.bestRule(), 0);
    }

    /** Rule 1 would pay 49 a third time, but that would be called back; rule 2 would pay 40. */
    private static void bestRuleCountsWhatStands() {
        TicketWindows x = drawn(0);
        x.set(1, 9);
        Check.order(x, "c0:49;c2:49;t1;c1:49;c0:40;c2:40");
        x.set(2, 1);
        due("22: paid more than once already", x.count(9), 1);
        due("22: rule 0 pays 40 twice", x.ifRule(0, 99, 1), 2);
        due("22: payments by rule 1", x.ifRule(1, 99, 0), 1);
        due("22: coins that stand by rule 1", x.ifRule(1, 99, 3), 99988);
        due("22: payments by rule 2", x.ifRule(2, 99, 0), 1);
        due("22: coins that stand by rule 2", x.ifRule(2, 99, 3), 99997);
        due("22: what stands counts", x.bestRule(), 2);
    }

    private static void shortest() {
        TicketWindows x = new TicketWindows();
        due("23: all empty", x.shortest(), 0);
        x.come(0, 1);
        due("23: the lowest empty one", x.shortest(), 1);
        x.come(1, 1);
        due("23: the last empty one", x.shortest(), 2);
        x.come(2, 1);
        x.come(2, 1);
        due("23: 1, 1 and 2", x.shortest(), 0);
        x.come(0, 1);
        due("23: 2, 1 and 2", x.shortest(), 1);
        x.come(1, 1);
        due("23: all 2", x.shortest(), 0);
        x.come(0, 1);
        x.come(1, 1);
        due("23: 3, 3 and 2", x.shortest(), 2);
    }

    private static void shortestIsFree() {
        TicketWindows x = drawn(1);
        x.come(0, 49);
        x.pass(1);
        due("23: window 0 waits", x.shortest(), 1);
        x.come(1, 1);
        x.come(2, 1);
        due("23: its row is shorter all the same", x.shortest(), 0);
        x.come(0, 1);
        due("23: all have one, 1 is free", x.shortest(), 1);
        x.leave(1);
        x.come(1, 40 + 9 * 12);
        due("23: window 2 is free and empty", x.shortest(), 2);
        x.leave(148);
        x.come(2, 49);
        x.pass(1);
        due("23: 0 and 2 wait", x.shortest(), 1);
        x.come(1, 1);
        due("23: of those that wait the lowest", x.shortest(), 0);
    }
}
