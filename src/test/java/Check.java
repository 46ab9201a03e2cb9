/** Compares answers with those that are due, and ends the program with 1 if one was not. */
final class Check {
    private final String test;
    private int compared;
    private int wrong;

    Check(String test) {
        this.test = test;
    }

    void due(String call, long got, long want) {
        compared++;
        if (got != want) {
            wrong++;
            System.out.println(test + ": " + call + " answered " + got + ", due is " + want);
        }
    }

    void holds(String what, boolean so) {
        due(what, so ? 1 : 0, 1);
    }

    boolean failed() {
        return wrong > 0;
    }

    void finish() {
        System.out.println(test + ": " + compared + " answers compared, " + wrong + " not as due");
        if (wrong > 0) {
            System.exit(1);
        }
    }

    static void write(TicketWindows office, String text) {
        office.clearText();
        for (int i = 0; i < text.length(); i++) {
            office.type(text.charAt(i));
        }
    }

    /** Writes a text and does its orders. */
    static int order(TicketWindows office, String text) {
        write(office, text);
        return office.doAll();
    }
}
