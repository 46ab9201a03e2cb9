/** Promises 12 to 14: undo, and the snapshot. */
public final class HistoryTest {
    private static final Check CHECK = new Check("HistoryTest");

    public static void main(String[] args) {
        fourStates();
        everyActIsRecorded();
        whatIsNoAct();
        undoBringsAllBack();
        openDisputesComeBack();
        snapshot();
        snapshotStays();
        wouldBeLeavesHistoryAlone();
        CHECK.finish();
    }

    private static void due(String call, long got, long want) {
        CHECK.due(call, got, want);
    }

    private static void fourStates() {
        TicketWindows x = new TicketWindows();
        due("12: undo()", x.undo(), TicketWindows.NONE);
        for (int i = 0; i < 6; i++) {
            x.sell(i);
            due("12: states", x.count(12), Math.min(i + 1, 4));
        }
        for (int left = 3; left >= 0; left--) {
            due("12: undo()", x.undo(), left);
            due("12: sold", x.drawOf(0, 1), 2 + left);
        }
        due("12: undo()", x.undo(), TicketWindows.NONE);
        due("12: the oldest two are gone", x.drawOf(0, 1), 2);
        x.sell(10);
        x.sell(11);
        due("12: undo()", x.undo(), 1);
        x.sell(12);
        due("12: 10 and 12", x.ticketOf(10, 0) * 100 + x.ticketOf(11, 0) * 10 + x.ticketOf(12, 0),
                101);
        due("12: undo()", x.undo(), 1);
        due("12: undo()", x.undo(), 0);
        due("12: sold", x.drawOf(0, 1), 2);
    }

    private static void everyActIsRecorded() {
        TicketWindows x = new TicketWindows();
        x.keep();
        for (int act = 0; act < 8; act++) {
            x.undo();
            due("12: no state", x.count(12), 0);
            switch (act) {
                case 0 -> x.sell(1);
                case 1 -> x.draw(1);
                case 2 -> x.come(1, 1);
                case 3 -> x.pass(1);
                case 4 -> x.set(0, 1);
                case 5 -> Check.order(x, "s1");
                case 6 -> x.restore();
                default -> x.set(1, 4);
            }
            due("12: act " + act, x.count(12), 1);
        }
        x.undo();
        x.come(1, 1);
        x.leave(1);
        due("5: leave() is an act", x.count(12), 2);
    }

    private static void whatIsNoAct() {
        TicketWindows x = new TicketWindows();
        x.come(0, 5);
        x.type('s');
        x.type('1');
        x.fault();
        x.clearText();
        x.keep();
        x.ticketOf(0, 0);
        x.drawOf(0, 0);
        x.windowOf(0, 0);
        x.count(0);
        x.paid(true);
        x.why(0, 0);
        x.ifRule(0, 5, 0);
        x.bestRule();
        x.shortest();
        due("12: one act", x.count(12), 1);
        due("12: undo()", x.undo(), 0);
        due("12: undo() is no act", x.count(12), 0);
    }

    private static void undoBringsAllBack() {
        TicketWindows x = new TicketWindows();
        Check.order(x, "s149;s140;s40;d0;d1;c0:149;c0:40;c1:149;c2:149;t1");
        x.set(0, 1);
        Check.order(x, "c2:140;t3;c2:140;t1");
        long before = sum(x);
        x.pass(9);
        x.draw(2);
        x.leave(140);
        due("12: something changed", x.count(0), 14);
        x.undo();
        x.undo();
        due("12: all is as it was", sum(x), before);
        x.pass(9);
        long then = sum(x);
        x.undo();
        x.pass(9);
        due("12: it goes the same way again", sum(x), then);
    }

    private static void openDisputesComeBack() {
        TicketWindows x = new TicketWindows();
        Check.order(x, "s49;s40;s9;d0;c0:49;c1:40;c2:9;t1");
        Check.order(x, "c1:49;c2:40;c0:9;t3");
        due("6: open disputes", x.count(8), 2);
        x.keep();
        long before = sum(x);
        x.pass(1);
        due("6: open disputes", x.count(8), 2);
        x.pass(9);
        due("6: all settled", x.count(8), 0);
        x.undo();
        x.undo();
        due("12: open disputes", x.count(8), 2);
        due("12: all is as it was", sum(x), before);
        x.pass(10);
        due("12: each is settled", x.count(6), 3);
        x.restore();
        due("14: open disputes", x.count(8), 2);
        x.pass(1);
        due("14: the clerk goes on", x.count(6), 2);
    }

    /** All that is told of a state in one number. */
    private static long sum(TicketWindows x) {
        long sum = 0;
        for (int ticket : new int[] {40, 140, 149}) {
            for (int what = 0; what < 9; what++) {
                sum = sum * 31 + x.ticketOf(ticket, what);
            }
        }
        for (int draw = 0; draw < 3; draw++) {
            for (int what = 0; what < 8; what++) {
                sum = sum * 31 + x.drawOf(draw, what);
            }
        }
        for (int window = 0; window < 3; window++) {
            for (int what = 0; what < 10; what++) {
                sum = sum * 31 + x.windowOf(window, what);
            }
        }
        for (int what = 0; what < 17; what++) {
            sum = sum * 31 + (what == 12 || what == 13 ? 0 : x.count(what));
        }
        return sum;
    }

    private static void snapshot() {
        TicketWindows x = new TicketWindows();
        due("14: restore()", x.restore(), TicketWindows.NONE);
        x.pass(7);
        x.sell(1);
        due("13: keep()", x.keep(), 7);
        due("13: no act", x.count(12), 2);
        x.sell(2);
        x.set(2, 20);
        x.come(1, 3);
        x.pass(5);
        due("14: restore()", x.restore(), 7);
        due("14: sold", x.count(4), 10);
        due("14: setting 2", x.count(16), 12);
        due("14: sent away", x.windowOf(1, 8), 0);
        due("14: an act", x.count(12), 4);
        due("12: undo()", x.undo(), 3);
        due("12: tick", x.count(0), 12);
        due("12: sold", x.count(4), 20);
        due("14: restore()", x.restore(), 7);
        due("14: restore() once more", x.restore(), 7);
        due("14: states", x.count(12), 4);
    }

    private static void snapshotStays() {
        TicketWindows x = new TicketWindows();
        due("13: keep()", x.keep(), 0);
        x.sell(1);
        x.restore();
        x.sell(2);
        x.pass(3);
        due("14: restore()", x.restore(), 0);
        due("14: nothing sold", x.count(4), 0);
        x.sell(3);
        due("13: keep() in place of it", x.keep(), 0);
        x.pass(2);
        x.undo();
        due("12: the snapshot is no part of a state", x.restore(), 0);
        due("14: sold", x.ticketOf(3, 0), 1);
        due("14: not sold", x.ticketOf(2, 0), 0);
        for (int i = 0; i < 4; i++) {
            x.undo();
        }
        due("14: restore()", x.restore(), 0);
        due("14: sold", x.ticketOf(3, 0), 1);
    }

    private static void wouldBeLeavesHistoryAlone() {
        TicketWindows x = new TicketWindows();
        x.sell(49);
        x.draw(0);
        x.come(0, 49);
        long before = sum(x);
        x.ifRule(1, 99, 0);
        x.bestRule();
        due("21, 22: nothing is changed", sum(x), before);
        due("11: an order fails", Check.order(x, "s149;d1;s148"), TicketWindows.NOT_POSSIBLE);
        due("11: nothing is changed", sum(x), before);
        due("12: undo()", x.undo(), 2);
        due("12: row", x.count(10), 0);
    }
}
