/** What an object tells of itself, in one text, so that two objects or two moments are compared. */
final class Told {
    private Told() {
    }

    /** Some ninety calls and nine more a ticket: an object is used for 512 of them at most. */
    static String of(TicketWindows x, int... tickets) {
        StringBuilder told = new StringBuilder(totals(x));
        for (int window = 0; window < 3; window++) {
            for (int what = 0; what < 10; what++) {
                row(told, "windowOf(" + window + ", " + what + ")", x.windowOf(window, what));
            }
        }
        for (int draw = 0; draw < 6; draw += 5) {
            for (int what = 0; what < 8; what++) {
                row(told, "drawOf(" + draw + ", " + what + ")", x.drawOf(draw, what));
            }
        }
        for (int ticket : tickets) {
            for (int what = 0; what < 9; what++) {
                row(told, "ticketOf(" + ticket + ", " + what + ")", x.ticketOf(ticket, what));
            }
        }
        row(told, "paid(true)", x.paid(true));
        row(told, "paid(false)", x.paid(false));
        row(told, "fault()", x.fault());
        row(told, "shortest()", x.shortest());
        return told.toString();
    }

    /** The seventeen answers of count alone, for objects that have few calls left. */
    static String totals(TicketWindows x) {
        StringBuilder told = new StringBuilder();
        for (int what = 0; what < 17; what++) {
            row(told, "count(" + what + ")", x.count(what));
        }
        return told.toString();
    }

    private static void row(StringBuilder told, String call, int answer) {
        told.append(call).append(" = ").append(answer).append('\n');
    }

    /** Compares two texts, and tells the first rows that differ. */
    static void same(Check check, String what, String got, String want) {
        String[] gotRows = got.split("\n");
        String[] wantRows = want.split("\n");
        String difference = "";
        for (int i = 0; i < Math.min(gotRows.length, wantRows.length); i++) {
            if (!gotRows[i].equals(wantRows[i])) {
                difference = ": " + gotRows[i] + ", not " + wantRows[i];
                break;
            }
        }
        check.holds(what + difference, got.equals(want));
    }
}
