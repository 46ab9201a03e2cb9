/**
 * A lottery office with three windows that should pay no ticket twice. What every call answers is
 * told by the document, as numbered promises; README.md tells how to use the class.
 */
public final class TicketWindows {
    public static final int UNKNOWN = -1;
    public static final int BAD_VALUE = -2;
    public static final int FULL = -3;
    public static final int NOT_POSSIBLE = -4;
    public static final int NONE = -5;

    private static final int TICKETS = 600;
    private static final int DRAWS = 6;
    private static final int TICKETS_OF_A_DRAW = 100;
    private static final int PRICE = 10;
    private static final int CLASSES = 3;
    private static final int[] SHARE_OF_CLASS = {0, 40, 30, 20};

    private static final int WINDOWS = 3;
    private static final int MOST_IN_ROW = 8;
    private static final int LAST_TICK = 9999;
    private static final int MOST_TICKS = 99;

    private static final int SETTINGS = 3;
    private static final int RULE = 0;
    private static final int TRAVEL = 1;
    private static final int PATIENCE = 2;
    private static final int[] FIRST_SETTING = {0, 3, 12};
    private static final int[] LEAST_SETTING = {0, 1, 1};
    private static final int[] MOST_SETTING = {2, 9, 20};

    private static final int RULE_ASK_HOME = 1;
    private static final int RULE_CALL_OUT = 2;

    private static final int NOT_SOLD = 1;
    private static final int NOT_DRAWN = 2;
    private static final int NO_PRIZE = 3;
    private static final int MARKED_HERE = 4;
    private static final int REFUSED = 5;
    private static final int NO_ANSWER = 6;

    // What is known of a ticket lies in one number, so that a kept state stays small. From IN_CLASS
    // on a fact has more than one bit: two for the class, one a window for the others.
    private static final int SOLD = 1;
    private static final int LENT = 2;
    private static final int DISPUTED = 4;
    private static final int IN_CLASS = 8;
    private static final int MARKED = 32;
    private static final int PAID = 256;
    private static final int CALLED_BACK = 2048;

    private static final int MARK = 0;
    private static final int QUESTION = 1;
    private static final int ANSWER_NO = 2;
    private static final int ANSWER_YES = 3;

    // A message travels 9 ticks at most. In ten ticks a window serves its row ten times, and may
    // end one wait begun before: 33 payments with 66 marks, 30 questions. Answers of ten ticks are
    // to questions of the 18 ticks before: 54.
    private static final int MOST_MESSAGES = 150;

    // Only a ticket with a prize is paid, and of a draw no more than 1 + 9 + 9 tickets have one.
    private static final int MOST_DISPUTES = 114;

    private static final int MOST_SIGNS = 60;
    // The shortest order has two signs, and one more to part it from the next.
    private static final int MOST_ORDERS = 20;
    private static final int FAULT_BASE = -100;

    private static final int MOST_STATES = 4;
    private static final int COINS_BASE = 100000;

    private Office now;
    // The state before the act that is under way; between two acts it is free for other use.
    private Office spare;
    private final Office[] past;
    private int states;
    private final Office snapshot;
    private boolean hasSnapshot;
    private final Orders orders;

    public TicketWindows() {
        now = new Office();
        spare = new Office();
        snapshot = new Office();
        past = new Office[MOST_STATES];
        for (int i = 0; i < MOST_STATES; i++) {
            past[i] = new Office();
        }
        orders = new Orders();
    }

    // ---- tickets, draws, customers

    public int sell(int ticket) {
        return endAct(beginAct().sellTicket(ticket));
    }

    public int draw(int draw) {
        return endAct(beginAct().drawByLot(draw));
    }

    public int come(int window, int ticket) {
        return endAct(beginAct().addCustomer(window, ticket));
    }

    public int leave(int ticket) {
        return endAct(beginAct().removeCustomers(ticket));
    }

    public int pass(int ticks) {
        return endAct(beginAct().passTicks(ticks));
    }

    public int set(int which, int value) {
        return endAct(beginAct().changeSetting(which, value));
    }

    // ---- texts

    public int type(char character) {
        return orders.append(character);
    }

    public int clearText() {
        return orders.clear();
    }

    public int fault() {
        return orders.read();
    }

    public int doAll() {
        int place = orders.read();
        if (place != NONE) {
            return FAULT_BASE - place;
        }
        Office office = beginAct();
        int many = orders.many;
        for (int i = 0; i < many; i++) {
            int number = orders.number[i];
            int answer;
            switch (orders.sign[i]) {
                case 's':
                    answer = office.sellTicket(number);
                    break;
                case 'c':
                    answer = office.addCustomer(orders.window[i], number);
                    break;
                case 'd':
                    answer = office.drawByLot(number);
                    break;
                default:
                    answer = office.passTicks(number);
                    break;
            }
            if (answer < 0 && answer != NONE) {
                now = spare;
                spare = office;
                return answer;
            }
        }
        return endAct(many);
    }

    // ---- history

    public int undo() {
        if (states <= 0 || states > MOST_STATES) {
            return NONE;
        }
        states--;
        Office before = past[states];
        past[states] = now;
        now = before;
        return states;
    }

    public int keep() {
        snapshot.copyFrom(now);
        hasSnapshot = true;
        return now.tick;
    }

    public int restore() {
        if (!hasSnapshot) {
            return NONE;
        }
        beginAct().copyFrom(snapshot);
        return endAct(now.tick);
    }

    // ---- what is told

    public int ticketOf(int ticket, int what) {
        if (!isTicket(ticket)) {
            return UNKNOWN;
        }
        return now.tellTicket(ticket, what);
    }

    public int drawOf(int draw, int what) {
        if (!isDraw(draw)) {
            return UNKNOWN;
        }
        return now.draws.tell(draw, what);
    }

    public int windowOf(int window, int what) {
        if (!isWindow(window)) {
            return UNKNOWN;
        }
        return what == 5 ? now.tickets.marksOf(window) : now.windows.tell(window, what);
    }

    public int count(int what) {
        switch (what) {
            case 12: return states;
            case 13: return orders.length;
            case 14: return now.settings[RULE];
            case 15: return now.settings[TRAVEL];
            case 16: return now.settings[PATIENCE];
            default: return now.tellTotal(what);
        }
    }

    public int paid(boolean byTickets) {
        return byTickets ? now.coinsByTickets() : now.coinsByWindows();
    }

    // ---- what would be

    public int why(int window, int ticket) {
        if (!isWindow(window) || !isTicket(ticket)) {
            return UNKNOWN;
        }
        return now.reasonAgainst(window, ticket);
    }

    public int ifRule(int rule, int ticks, int what) {
        if (!isSetting(RULE, rule) || !areTicks(ticks) || what < 0 || what > 3) {
            return BAD_VALUE;
        }
        Office then = runWithRule(rule, ticks);
        switch (what) {
            case 0: return then.windows.payments() - now.windows.payments();
            case 1: return then.paidTwice;
            case 2: return then.windows.allSentAway() - now.windows.allSentAway();
            default: return then.coinsByWindows() - now.coinsByWindows() + COINS_BASE;
        }
    }

    public int bestRule() {
        int best = NONE;
        int most = -1;
        for (int rule = 0; rule <= MOST_SETTING[RULE]; rule++) {
            Office then = runWithRule(rule, MOST_TICKS);
            int standing = then.windows.payments() - then.paymentsBack;
            if (then.paidTwice <= now.paidTwice && standing > most) {
                best = rule;
                most = standing;
            }
        }
        return best;
    }

    public int shortest() {
        return now.windows.shortestRow();
    }

    // ---- inside

    private Office beginAct() {
        spare.copyFrom(now);
        return now;
    }

    private int endAct(int answer) {
        if (answer >= 0) {
            record();
        }
        return answer;
    }

    /** Puts the state that was before the act into the history; the state dropped is spare then. */
    private void record() {
        Office free = past[0];
        if (states < MOST_STATES) {
            free = past[states];
            past[states] = spare;
            states++;
        } else {
            for (int i = 1; i < MOST_STATES; i++) {
                past[i - 1] = past[i];
            }
            past[MOST_STATES - 1] = spare;
        }
        spare = free;
    }

    private Office runWithRule(int rule, int ticks) {
        spare.copyFrom(now);
        spare.settings[RULE] = rule;
        spare.runTicks(ticks);
        return spare;
    }

    private static boolean isTicket(int ticket) {
        return ticket >= 0 && ticket < TICKETS;
    }

    private static boolean isDraw(int draw) {
        return draw >= 0 && draw < DRAWS;
    }

    private static boolean isWindow(int window) {
        return window >= 0 && window < WINDOWS;
    }

    private static boolean areTicks(int ticks) {
        return ticks >= 1 && ticks <= MOST_TICKS;
    }

    private static boolean isSetting(int which, int value) {
        return which >= 0 && which < SETTINGS
                && value >= LEAST_SETTING[which] && value <= MOST_SETTING[which];
    }

    /** One state: everything but the text, the history and the snapshot. */
    private static final class Office {
        int tick;
        int lot;
        final int[] settings;
        final Tickets tickets;
        final Draws draws;
        final Windows windows;
        final Mail mail;
        final Disputes disputes;
        int paidTwice;
        int paymentsBack;
        int coinsBack;

        Office() {
            lot = 1;
            settings = new int[SETTINGS];
            for (int i = 0; i < SETTINGS; i++) {
                settings[i] = FIRST_SETTING[i];
            }
            tickets = new Tickets();
            draws = new Draws();
            windows = new Windows();
            mail = new Mail();
            disputes = new Disputes();
        }

        void copyFrom(Office other) {
            tick = other.tick;
            lot = other.lot;
            System.arraycopy(other.settings, 0, settings, 0, SETTINGS);
            tickets.copyFrom(other.tickets);
            draws.copyFrom(other.draws);
            windows.copyFrom(other.windows);
            mail.copyFrom(other.mail);
            disputes.copyFrom(other.disputes);
            paidTwice = other.paidTwice;
            paymentsBack = other.paymentsBack;
            coinsBack = other.coinsBack;
        }

        int sellTicket(int ticket) {
            if (!isTicket(ticket)) {
                return UNKNOWN;
            }
            int draw = ticket / TICKETS_OF_A_DRAW;
            if (draws.isDrawn(draw)) {
                return NOT_POSSIBLE;
            }
            if (tickets.has(ticket, SOLD)) {
                return NONE;
            }
            tickets.add(ticket, SOLD);
            draws.sold[draw]++;
            return draws.pool(draw);
        }

        int drawByLot(int draw) {
            if (!isDraw(draw)) {
                return UNKNOWN;
            }
            if (draws.isDrawn(draw)) {
                return NOT_POSSIBLE;
            }
            lot = (75 * lot + 74) % 65537;
            int winning = lot % TICKETS_OF_A_DRAW;
            draws.winning[draw] = winning;
            for (int number = 0; number < TICKETS_OF_A_DRAW; number++) {
                int ticket = draw * TICKETS_OF_A_DRAW + number;
                int prizeClass = classOfNumber(number, winning);
                if (prizeClass > 0 && tickets.has(ticket, SOLD)) {
                    tickets.add(ticket, IN_CLASS * prizeClass);
                    draws.addWinner(draw, prizeClass);
                }
            }
            return winning;
        }

        private static int classOfNumber(int number, int winning) {
            if (number == winning) {
                return 1;
            }
            if (number / 10 == winning / 10) {
                return 2;
            }
            return number % 10 == winning % 10 ? 3 : 0;
        }

        int addCustomer(int window, int ticket) {
            if (!isWindow(window) || !isTicket(ticket)) {
                return UNKNOWN;
            }
            return windows.append(window, ticket);
        }

        int removeCustomers(int ticket) {
            if (!isTicket(ticket)) {
                return UNKNOWN;
            }
            int left = windows.removeAll(ticket);
            return left == 0 ? NONE : left;
        }

        int passTicks(int ticks) {
            if (!areTicks(ticks)) {
                return BAD_VALUE;
            }
            if (tick + ticks > LAST_TICK) {
                return FULL;
            }
            int before = windows.allCoins();
            runTicks(ticks);
            return windows.allCoins() - before;
        }

        int changeSetting(int which, int value) {
            if (!isSetting(which, value)) {
                return BAD_VALUE;
            }
            int previous = settings[which];
            if (previous == value) {
                return NONE;
            }
            settings[which] = value;
            return previous;
        }

        void runTicks(int ticks) {
            for (int i = 0; i < ticks; i++) {
                bringMail();
                for (int window = 0; window < WINDOWS; window++) {
                    serve(window);
                }
                settleFirstDispute();
                tick++;
                windows.countWaiting();
            }
        }

        private void bringMail() {
            // What is sent meanwhile comes later, so that the first ones are all there is to bring.
            int many = mail.many;
            for (int i = 0; i < many; i++) {
                if (!mail.isDue(i, tick)) {
                    continue;
                }
                int window = mail.windowOfMessage(i);
                int ticket = mail.ticketOfMessage(i);
                switch (mail.kindOfMessage(i)) {
                    case MARK:
                        takeMark(window, ticket);
                        break;
                    case QUESTION:
                        takeQuestion(window, ticket);
                        break;
                    case ANSWER_YES:
                        takeYes(window, ticket);
                        break;
                    default:
                        takeNo(window, ticket);
                        break;
                }
            }
            mail.dropDue(tick);
        }

        private void takeMark(int window, int ticket) {
            tickets.add(ticket, MARKED << window);
            if (tickets.has(ticket, PAID << window) && !tickets.has(ticket, DISPUTED)) {
                tickets.add(ticket, DISPUTED);
                disputes.open(ticket);
            }
        }

        private void takeQuestion(int asker, int ticket) {
            int home = ticket % WINDOWS;
            if (tickets.has(ticket, LENT) || tickets.has(ticket, MARKED << home)) {
                mail.send(ANSWER_NO, asker, ticket, tick + settings[TRAVEL]);
                return;
            }
            tickets.add(ticket, LENT);
            mail.send(ANSWER_YES, asker, ticket, tick + settings[TRAVEL]);
        }

        private void takeYes(int window, int ticket) {
            if (windows.waitsFor[window] == ticket) {
                windows.waitsFor[window] = NONE;
                pay(window, ticket);
            } else {
                tickets.remove(ticket, LENT);
            }
        }

        private void takeNo(int window, int ticket) {
            if (windows.waitsFor[window] == ticket) {
                windows.waitsFor[window] = NONE;
                windows.sendAway(window, REFUSED);
            }
        }

        private void serve(int window) {
            if (windows.waitsTooLong(window, settings[PATIENCE])) {
                windows.waitsFor[window] = NONE;
                windows.sendAway(window, NO_ANSWER);
            }
            if (windows.isWaiting(window)) {
                return;
            }
            int ticket = windows.takeFirst(window);
            if (ticket == NONE) {
                return;
            }
            int reason = reasonAgainst(window, ticket);
            if (reason != 0) {
                windows.sendAway(window, reason);
            } else if (settings[RULE] == RULE_ASK_HOME && ticket % WINDOWS != window) {
                mail.send(QUESTION, window, ticket, tick + settings[TRAVEL]);
                windows.startWaiting(window, ticket);
            } else {
                pay(window, ticket);
            }
        }

        int reasonAgainst(int window, int ticket) {
            if (!tickets.has(ticket, SOLD)) {
                return NOT_SOLD;
            }
            if (!draws.isDrawn(ticket / TICKETS_OF_A_DRAW)) {
                return NOT_DRAWN;
            }
            if (prizeOf(ticket) == 0) {
                return NO_PRIZE;
            }
            if (tickets.has(ticket, MARKED << window)) {
                return MARKED_HERE;
            }
            switch (settings[RULE]) {
                case RULE_ASK_HOME:
                    return ticket % WINDOWS == window && tickets.has(ticket, LENT) ? REFUSED : 0;
                case RULE_CALL_OUT:
                    return tickets.windowBits(ticket, MARKED) != 0 ? REFUSED : 0;
                default:
                    return 0;
            }
        }

        private void pay(int window, int ticket) {
            windows.addPayment(window, prizeOf(ticket));
            // Its own mark keeps a window from paying a ticket again: a bit a window is enough.
            if (Integer.bitCount(tickets.windowBits(ticket, PAID)) == 1) {
                paidTwice++;
            }
            tickets.add(ticket, PAID << window);
            tickets.notePayment(ticket, window, tick);
            tickets.add(ticket, MARKED << window);
            for (int other = 0; other < WINDOWS; other++) {
                if (other != window) {
                    mail.send(MARK, other, ticket, tick + settings[TRAVEL]);
                }
            }
        }

        private void settleFirstDispute() {
            int ticket = disputes.takeFirst();
            if (ticket == NONE) {
                return;
            }
            tickets.remove(ticket, DISPUTED);
            int counts = tickets.firstPayer(ticket);
            int coins = prizeOf(ticket);
            for (int window = 0; window < WINDOWS; window++) {
                if (window != counts && tickets.has(ticket, PAID << window)
                        && !tickets.has(ticket, CALLED_BACK << window)) {
                    tickets.add(ticket, CALLED_BACK << window);
                    paymentsBack++;
                    coinsBack += coins;
                }
            }
        }

        int prizeOf(int ticket) {
            return draws.prize(ticket / TICKETS_OF_A_DRAW, tickets.classOfTicket(ticket));
        }

        int coinsByTickets() {
            int coins = 0;
            for (int ticket = 0; ticket < TICKETS; ticket++) {
                int times = Integer.bitCount(tickets.windowBits(ticket, PAID))
                        - Integer.bitCount(tickets.windowBits(ticket, CALLED_BACK));
                coins += times * prizeOf(ticket);
            }
            return coins;
        }

        int coinsByWindows() {
            return windows.allCoins() - coinsBack;
        }

        int tellTicket(int ticket, int what) {
            switch (what) {
                case 0: return tickets.has(ticket, SOLD) ? 1 : 0;
                case 1: return tickets.classOfTicket(ticket);
                case 2: return prizeOf(ticket);
                case 3: return Integer.bitCount(tickets.windowBits(ticket, PAID));
                case 4: return Integer.bitCount(tickets.windowBits(ticket, CALLED_BACK));
                case 5: return tickets.windowBits(ticket, MARKED) / MARKED;
                case 6: return tickets.has(ticket, LENT) ? 1 : 0;
                case 7: return windows.customersWith(ticket);
                case 8: return tickets.has(ticket, DISPUTED) ? 1 : 0;
                default: return BAD_VALUE;
            }
        }

        int tellTotal(int what) {
            switch (what) {
                case 0: return tick;
                case 1: return mail.many;
                case 2: return windows.allCoins();
                case 3: return coinsBack;
                case 4: return draws.allPools();
                case 5: return windows.payments();
                case 6: return paymentsBack;
                case 7: return disputes.opened;
                case 8: return disputes.many;
                case 9: return paidTwice;
                case 10: return windows.allCustomers();
                case 11: return lot;
                default: return BAD_VALUE;
            }
        }
    }

    /** What is known of each ticket. */
    private static final class Tickets {
        private final int[] facts;
        // The time and the window of the first payment, 0 without one. The clerk never calls it
        // back, so that of the payments that stand it always stays the first.
        private final int[] firstPayment;

        Tickets() {
            facts = new int[TICKETS];
            firstPayment = new int[TICKETS];
        }

        void copyFrom(Tickets other) {
            System.arraycopy(other.facts, 0, facts, 0, TICKETS);
            System.arraycopy(other.firstPayment, 0, firstPayment, 0, TICKETS);
        }

        boolean has(int ticket, int fact) {
            return ticket >= 0 && ticket < TICKETS && (facts[ticket] & fact) != 0;
        }

        void add(int ticket, int fact) {
            if (ticket >= 0 && ticket < TICKETS) {
                facts[ticket] |= fact;
            }
        }

        void remove(int ticket, int fact) {
            if (ticket >= 0 && ticket < TICKETS) {
                facts[ticket] &= ~fact;
            }
        }

        int classOfTicket(int ticket) {
            return ticket >= 0 && ticket < TICKETS ? facts[ticket] / IN_CLASS & 3 : 0;
        }

        /** The bits of a fact that is told window by window: one for each of which it is so. */
        int windowBits(int ticket, int fact) {
            return ticket >= 0 && ticket < TICKETS ? facts[ticket] & 7 * fact : 0;
        }

        int marksOf(int window) {
            int marks = 0;
            for (int ticket = 0; ticket < TICKETS; ticket++) {
                if ((facts[ticket] & MARKED << window) != 0) {
                    marks++;
                }
            }
            return marks;
        }

        void notePayment(int ticket, int window, int tick) {
            int payment = tick * WINDOWS + window + 1;
            if (ticket >= 0 && ticket < TICKETS
                    && (firstPayment[ticket] == 0 || payment < firstPayment[ticket])) {
                firstPayment[ticket] = payment;
            }
        }

        int firstPayer(int ticket) {
            if (ticket < 0 || ticket >= TICKETS || firstPayment[ticket] == 0) {
                return NONE;
            }
            return (firstPayment[ticket] - 1) % WINDOWS;
        }
    }

    /** What is known of each draw. */
    private static final class Draws {
        final int[] sold;
        final int[] winning;
        private final int[] winners;

        Draws() {
            sold = new int[DRAWS];
            winning = new int[DRAWS];
            for (int i = 0; i < DRAWS; i++) {
                winning[i] = NONE;
            }
            winners = new int[DRAWS * CLASSES];
        }

        void copyFrom(Draws other) {
            System.arraycopy(other.sold, 0, sold, 0, DRAWS);
            System.arraycopy(other.winning, 0, winning, 0, DRAWS);
            System.arraycopy(other.winners, 0, winners, 0, DRAWS * CLASSES);
        }

        boolean isDrawn(int draw) {
            return draw >= 0 && draw < DRAWS && winning[draw] != NONE;
        }

        int pool(int draw) {
            return draw >= 0 && draw < DRAWS ? sold[draw] * PRICE : 0;
        }

        int allPools() {
            int coins = 0;
            for (int draw = 0; draw < DRAWS; draw++) {
                coins += sold[draw] * PRICE;
            }
            return coins;
        }

        void addWinner(int draw, int prizeClass) {
            if (draw >= 0 && draw < DRAWS && prizeClass >= 1 && prizeClass <= CLASSES) {
                winners[draw * CLASSES + prizeClass - 1]++;
            }
        }

        private int winnersOf(int draw, int prizeClass) {
            if (draw < 0 || draw >= DRAWS || prizeClass < 1 || prizeClass > CLASSES) {
                return 0;
            }
            return winners[draw * CLASSES + prizeClass - 1];
        }

        int prize(int draw, int prizeClass) {
            if (draw < 0 || draw >= DRAWS || prizeClass < 1 || prizeClass > CLASSES) {
                return 0;
            }
            int sharers = winners[draw * CLASSES + prizeClass - 1];
            if (sharers <= 0) {
                return 0;
            }
            return sold[draw] * PRICE * SHARE_OF_CLASS[prizeClass] / 100 / sharers;
        }

        private int allPrizes(int draw) {
            int coins = 0;
            for (int prizeClass = 1; prizeClass <= CLASSES; prizeClass++) {
                coins += winnersOf(draw, prizeClass) * prize(draw, prizeClass);
            }
            return coins;
        }

        int tell(int draw, int what) {
            switch (what) {
                case 0: return pool(draw);
                case 1: return sold[draw];
                case 2: return isDrawn(draw) ? 1 : 0;
                case 3: return winning[draw];
                case 4: return winnersOf(draw, 1);
                case 5: return winnersOf(draw, 2);
                case 6: return winnersOf(draw, 3);
                case 7: return allPrizes(draw);
                default: return BAD_VALUE;
            }
        }
    }

    /** The windows, with the rows before them. */
    private static final class Windows {
        private final int[] rows;
        private final int[] length;
        final int[] waitsFor;
        private final int[] waited;
        private final int[] coins;
        private final int[] paidCustomers;
        private final int[] sentAway;
        private final int[] latestReason;

        Windows() {
            rows = new int[WINDOWS * MOST_IN_ROW];
            length = new int[WINDOWS];
            waitsFor = new int[WINDOWS];
            for (int i = 0; i < WINDOWS; i++) {
                waitsFor[i] = NONE;
            }
            waited = new int[WINDOWS];
            coins = new int[WINDOWS];
            paidCustomers = new int[WINDOWS];
            sentAway = new int[WINDOWS];
            latestReason = new int[WINDOWS];
        }

        void copyFrom(Windows other) {
            System.arraycopy(other.rows, 0, rows, 0, WINDOWS * MOST_IN_ROW);
            System.arraycopy(other.length, 0, length, 0, WINDOWS);
            System.arraycopy(other.waitsFor, 0, waitsFor, 0, WINDOWS);
            System.arraycopy(other.waited, 0, waited, 0, WINDOWS);
            System.arraycopy(other.coins, 0, coins, 0, WINDOWS);
            System.arraycopy(other.paidCustomers, 0, paidCustomers, 0, WINDOWS);
            System.arraycopy(other.sentAway, 0, sentAway, 0, WINDOWS);
            System.arraycopy(other.latestReason, 0, latestReason, 0, WINDOWS);
        }

        int append(int window, int ticket) {
            int many = length[window];
            if (many >= MOST_IN_ROW) {
                return FULL;
            }
            rows[window * MOST_IN_ROW + many] = ticket;
            length[window] = many + 1;
            return many + 1;
        }

        int takeFirst(int window) {
            int many = length[window];
            if (many <= 0) {
                return NONE;
            }
            int start = window * MOST_IN_ROW;
            int ticket = rows[start];
            for (int i = 1; i < many; i++) {
                rows[start + i - 1] = rows[start + i];
            }
            length[window] = many - 1;
            return ticket;
        }

        int removeAll(int ticket) {
            int left = 0;
            for (int window = 0; window < WINDOWS; window++) {
                int start = window * MOST_IN_ROW;
                int stay = 0;
                for (int i = 0; i < length[window]; i++) {
                    if (rows[start + i] != ticket) {
                        rows[start + stay] = rows[start + i];
                        stay++;
                    }
                }
                left += length[window] - stay;
                length[window] = stay;
            }
            return left;
        }

        int customersWith(int ticket) {
            int customers = 0;
            for (int window = 0; window < WINDOWS; window++) {
                for (int i = 0; i < length[window]; i++) {
                    if (rows[window * MOST_IN_ROW + i] == ticket) {
                        customers++;
                    }
                }
            }
            return customers;
        }

        boolean isWaiting(int window) {
            return waitsFor[window] != NONE;
        }

        boolean waitsTooLong(int window, int patience) {
            return waitsFor[window] != NONE && waited[window] >= patience;
        }

        void startWaiting(int window, int ticket) {
            waitsFor[window] = ticket;
            waited[window] = 0;
        }

        void countWaiting() {
            for (int window = 0; window < WINDOWS; window++) {
                if (waitsFor[window] != NONE) {
                    waited[window]++;
                }
            }
        }

        void sendAway(int window, int reason) {
            sentAway[window]++;
            latestReason[window] = reason;
        }

        void addPayment(int window, int prize) {
            coins[window] += prize;
            paidCustomers[window]++;
        }

        int payments() {
            return sum(paidCustomers);
        }

        int allCoins() {
            return sum(coins);
        }

        int allSentAway() {
            return sum(sentAway);
        }

        int allCustomers() {
            return sum(length);
        }

        private static int sum(int[] ofWindows) {
            int all = 0;
            for (int window = 0; window < WINDOWS; window++) {
                all += ofWindows[window];
            }
            return all;
        }

        int shortestRow() {
            int best = 0;
            for (int window = 1; window < WINDOWS; window++) {
                boolean shorter = length[window] < length[best];
                boolean freer = isWaiting(best) && !isWaiting(window);
                if (shorter || length[window] == length[best] && freer) {
                    best = window;
                }
            }
            return best;
        }

        int tell(int window, int what) {
            switch (what) {
                case 0: return length[window];
                case 1: return length[window] > 0 ? rows[window * MOST_IN_ROW] : NONE;
                case 2: return isWaiting(window) ? 1 : 0;
                case 3: return waitsFor[window];
                case 4: return isWaiting(window) ? waited[window] : 0;
                case 6: return coins[window];
                case 7: return paidCustomers[window];
                case 8: return sentAway[window];
                case 9: return latestReason[window];
                default: return BAD_VALUE;
            }
        }
    }

    /** The messages on their way, in the order in which they were sent. */
    private static final class Mail {
        int many;
        private final int[] due;
        // Kind, window and ticket in one number. The window is the one that gets the message, but
        // for a question the one that asks: the ticket tells its home.
        private final int[] content;

        Mail() {
            due = new int[MOST_MESSAGES];
            content = new int[MOST_MESSAGES];
        }

        void copyFrom(Mail other) {
            many = other.many;
            System.arraycopy(other.due, 0, due, 0, MOST_MESSAGES);
            System.arraycopy(other.content, 0, content, 0, MOST_MESSAGES);
        }

        void send(int kind, int window, int ticket, int dueTick) {
            if (many < MOST_MESSAGES) {
                due[many] = dueTick;
                content[many] = (kind * WINDOWS + window) * TICKETS + ticket;
                many++;
            }
        }

        boolean isDue(int message, int tick) {
            return due[message] <= tick;
        }

        int kindOfMessage(int message) {
            return content[message] / TICKETS / WINDOWS;
        }

        int windowOfMessage(int message) {
            return content[message] / TICKETS % WINDOWS;
        }

        int ticketOfMessage(int message) {
            return content[message] % TICKETS;
        }

        void dropDue(int tick) {
            int stay = 0;
            for (int i = 0; i < many; i++) {
                if (due[i] > tick) {
                    due[stay] = due[i];
                    content[stay] = content[i];
                    stay++;
                }
            }
            many = stay;
        }
    }

    /** The tickets with an open dispute, the one that was opened first in front. */
    private static final class Disputes {
        int many;
        int opened;
        private final int[] queue;

        Disputes() {
            queue = new int[MOST_DISPUTES];
        }

        void copyFrom(Disputes other) {
            many = other.many;
            opened = other.opened;
            System.arraycopy(other.queue, 0, queue, 0, MOST_DISPUTES);
        }

        void open(int ticket) {
            if (many < MOST_DISPUTES) {
                queue[many] = ticket;
                many++;
                opened++;
            }
        }

        int takeFirst() {
            if (many <= 0) {
                return NONE;
            }
            int ticket = queue[0];
            for (int i = 1; i < many; i++) {
                queue[i - 1] = queue[i];
            }
            many--;
            return ticket;
        }
    }

    /** The text, and the orders read from it. */
    private static final class Orders {
        int length;
        int many;
        final char[] sign;
        final int[] window;
        final int[] number;
        private final char[] text;
        private int place;

        Orders() {
            text = new char[MOST_SIGNS];
            sign = new char[MOST_ORDERS];
            window = new int[MOST_ORDERS];
            number = new int[MOST_ORDERS];
        }

        int append(char character) {
            if (length >= MOST_SIGNS) {
                return FULL;
            }
            text[length] = character;
            length++;
            return length;
        }

        int clear() {
            int before = length;
            length = 0;
            return before;
        }

        /** Reads all orders; returns the place of the fault, or NONE. */
        int read() {
            place = 0;
            many = 0;
            for (int i = 0; i < MOST_ORDERS; i++) {
                if (!readOrder(i)) {
                    return place;
                }
                many++;
                if (place >= length) {
                    return NONE;
                }
                if (!readSign(';')) {
                    return place;
                }
            }
            return place;
        }

        /** False if the order has a fault, at the place that is reached then. */
        private boolean readOrder(int order) {
            if (place >= length || place >= MOST_SIGNS) {
                return false;
            }
            char first = text[place];
            if (first != 's' && first != 'c' && first != 'd' && first != 't') {
                return false;
            }
            place++;
            sign[order] = first;
            if (first == 'c' && !readWindow(order)) {
                return false;
            }
            number[order] = readNumber(first == 't' ? 1 : 0, mostBehind(first));
            return number[order] != NONE;
        }

        private static int mostBehind(char first) {
            switch (first) {
                case 't': return MOST_TICKS;
                case 'd': return DRAWS - 1;
                default: return TICKETS - 1;
            }
        }

        private boolean readWindow(int order) {
            window[order] = readNumber(0, WINDOWS - 1);
            return window[order] != NONE && readSign(':');
        }

        private boolean readSign(char due) {
            if (place >= length || place >= MOST_SIGNS || text[place] != due) {
                return false;
            }
            place++;
            return true;
        }

        /** Reads a number; its least value is 0 or 1, so that only a 0 can be too small. */
        private int readNumber(int least, int most) {
            int value = NONE;
            while (place < length && place < MOST_SIGNS) {
                int digit = text[place] - '0';
                if (digit < 0 || digit > 9) {
                    return value;
                }
                if (value == 0) {
                    return NONE;
                }
                int longer = value == NONE ? digit : value * 10 + digit;
                if (longer < least || longer > most) {
                    return NONE;
                }
                value = longer;
                place++;
            }
            return value;
        }
    }
}
