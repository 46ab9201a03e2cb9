import java.util.ArrayDeque;
import java.util.ArrayList;
import java.util.Comparator;
import java.util.Deque;
import java.util.HashSet;
import java.util.List;
import java.util.Optional;
import java.util.Set;
import java.util.regex.Pattern;

/**
 * The document told once more, as naively as the Java library allows: lists of records, everything
 * counted anew each time it is asked for. The class is compared with it in random runs.
 */
final class Reference {
    static final int UNKNOWN = -1;
    static final int BAD_VALUE = -2;
    static final int FULL = -3;
    static final int NOT_POSSIBLE = -4;
    static final int NONE = -5;

    private enum Kind { MARK, QUESTION, ANSWER }

    private record Message(Kind kind, int from, int to, int ticket, boolean yes, int due) { }

    private static final class Payment {
        final int ticket;
        final int window;
        final int tick;
        final int coins;
        boolean calledBack;

        Payment(int ticket, int window, int tick, int coins, boolean calledBack) {
            this.ticket = ticket;
            this.window = window;
            this.tick = tick;
            this.coins = coins;
            this.calledBack = calledBack;
        }
    }

    private static final class State {
        int tick = 0;
        int lot = 1;
        int[] settings = {0, 3, 12};
        Set<Integer> sold = new HashSet<>();
        Integer[] winning = new Integer[6];
        List<List<Integer>> rows = new ArrayList<>();
        List<Set<Integer>> marks = new ArrayList<>();
        Integer[] waitsFor = new Integer[3];
        int[] waited = new int[3];
        List<List<Integer>> sentAway = new ArrayList<>();
        Set<Integer> lent = new HashSet<>();
        List<Message> mail = new ArrayList<>();
        List<Payment> payments = new ArrayList<>();
        List<Integer> disputes = new ArrayList<>();
        int opened = 0;

        State() {
            for (int i = 0; i < 3; i++) {
                rows.add(new ArrayList<>());
                marks.add(new HashSet<>());
                sentAway.add(new ArrayList<>());
            }
        }

        State copy() {
            State c = new State();
            c.tick = tick;
            c.lot = lot;
            c.settings = settings.clone();
            c.sold.addAll(sold);
            c.winning = winning.clone();
            for (int i = 0; i < 3; i++) {
                c.rows.get(i).addAll(rows.get(i));
                c.marks.get(i).addAll(marks.get(i));
                c.sentAway.get(i).addAll(sentAway.get(i));
            }
            c.waitsFor = waitsFor.clone();
            c.waited = waited.clone();
            c.lent.addAll(lent);
            c.mail.addAll(mail);
            for (Payment p : payments) {
                c.payments.add(new Payment(p.ticket, p.window, p.tick, p.coins, p.calledBack));
            }
            c.disputes.addAll(disputes);
            c.opened = opened;
            return c;
        }

        int prizeClass(int ticket) {
            Integer won = winning[ticket / 100];
            if (won == null || !sold.contains(ticket)) {
                return 0;
            }
            int n = ticket % 100;
            if (n == won) {
                return 1;
            }
            if (n / 10 == won / 10) {
                return 2;
            }
            return n % 10 == won % 10 ? 3 : 0;
        }

        int winners(int draw, int prizeClass) {
            return (int) sold.stream()
                    .filter(t -> t / 100 == draw && prizeClass(t) == prizeClass).count();
        }

        int soldOf(int draw) {
            return (int) sold.stream().filter(t -> t / 100 == draw).count();
        }

        int prize(int ticket) {
            int prizeClass = prizeClass(ticket);
            if (prizeClass == 0) {
                return 0;
            }
            int part = new int[] {0, 40, 30, 20}[prizeClass];
            return 10 * soldOf(ticket / 100) * part / 100 / winners(ticket / 100, prizeClass);
        }

        void send(Kind kind, int from, int to, int ticket, boolean yes) {
            mail.add(new Message(kind, from, to, ticket, yes, tick + settings[1]));
        }

        void pay(int window, int ticket) {
            payments.add(new Payment(ticket, window, tick, prize(ticket), false));
            marks.get(window).add(ticket);
            for (int w = 0; w < 3; w++) {
                if (w != window) {
                    send(Kind.MARK, window, w, ticket, false);
                }
            }
        }

        void receive(Message m) {
            switch (m.kind) {
                case MARK -> {
                    marks.get(m.to).add(m.ticket);
                    boolean own = payments.stream()
                            .anyMatch(p -> p.ticket == m.ticket && p.window == m.to);
                    if (own && !disputes.contains(m.ticket)) {
                        disputes.add(m.ticket);
                        opened++;
                    }
                }
                case QUESTION -> {
                    boolean yes = !lent.contains(m.ticket) && !marks.get(m.to).contains(m.ticket);
                    if (yes) {
                        lent.add(m.ticket);
                    }
                    send(Kind.ANSWER, m.to, m.from, m.ticket, yes);
                }
                case ANSWER -> {
                    boolean waits = waitsFor[m.to] != null && waitsFor[m.to] == m.ticket;
                    if (waits) {
                        waitsFor[m.to] = null;
                        if (m.yes) {
                            pay(m.to, m.ticket);
                        } else {
                            sentAway.get(m.to).add(5);
                        }
                    } else if (m.yes) {
                        lent.remove(m.ticket);
                    }
                }
            }
        }

        int why(int window, int ticket) {
            if (!sold.contains(ticket)) {
                return 1;
            }
            if (winning[ticket / 100] == null) {
                return 2;
            }
            if (prize(ticket) == 0) {
                return 3;
            }
            if (marks.get(window).contains(ticket)) {
                return 4;
            }
            if (settings[0] == 1 && ticket % 3 == window && lent.contains(ticket)) {
                return 5;
            }
            if (settings[0] == 2 && marks.stream().anyMatch(m -> m.contains(ticket))) {
                return 5;
            }
            return 0;
        }

        void serve(int w) {
            if (waitsFor[w] != null && waited[w] >= settings[2]) {
                waitsFor[w] = null;
                sentAway.get(w).add(6);
            }
            if (waitsFor[w] != null || rows.get(w).isEmpty()) {
                return;
            }
            int ticket = rows.get(w).remove(0);
            int reason = why(w, ticket);
            if (reason > 0) {
                sentAway.get(w).add(reason);
            } else if (settings[0] == 1 && ticket % 3 != w) {
                send(Kind.QUESTION, w, ticket % 3, ticket, false);
                waitsFor[w] = ticket;
                waited[w] = 0;
            } else {
                pay(w, ticket);
            }
        }

        void settle() {
            if (disputes.isEmpty()) {
                return;
            }
            int ticket = disputes.remove(0);
            Optional<Payment> counts = payments.stream()
                    .filter(p -> p.ticket == ticket && !p.calledBack)
                    .min(Comparator.<Payment>comparingInt(p -> p.tick)
                            .thenComparingInt(p -> p.window));
            for (Payment p : payments) {
                if (p.ticket == ticket && p != counts.get()) {
                    p.calledBack = true;
                }
            }
        }

        void oneTick() {
            List<Message> due = new ArrayList<>();
            for (Message m : mail) {
                if (m.due == tick) {
                    due.add(m);
                }
            }
            mail.removeAll(due);
            for (Message m : due) {
                receive(m);
            }
            for (int w = 0; w < 3; w++) {
                serve(w);
            }
            settle();
            tick++;
            for (int w = 0; w < 3; w++) {
                if (waitsFor[w] != null) {
                    waited[w]++;
                }
            }
        }

        int coins() {
            return payments.stream().mapToInt(p -> p.coins).sum();
        }

        int coinsBack() {
            return payments.stream().filter(p -> p.calledBack).mapToInt(p -> p.coins).sum();
        }

        int back() {
            return (int) payments.stream().filter(p -> p.calledBack).count();
        }

        int sent() {
            return sentAway.stream().mapToInt(List::size).sum();
        }

        int paymentsOf(int ticket) {
            return (int) payments.stream().filter(p -> p.ticket == ticket).count();
        }

        int twice() {
            Set<Integer> seen = new HashSet<>();
            Set<Integer> twice = new HashSet<>();
            for (Payment p : payments) {
                if (!seen.add(p.ticket)) {
                    twice.add(p.ticket);
                }
            }
            return twice.size();
        }
    }

    private State now = new State();
    private final Deque<State> past = new ArrayDeque<>();
    private State snapshot = null;
    private final StringBuilder text = new StringBuilder();

    private int act(State before, int answer) {
        if (answer >= 0) {
            past.addLast(before);
            if (past.size() > 4) {
                past.removeFirst();
            }
        }
        return answer;
    }

    private static boolean in(int value, int least, int most) {
        return value >= least && value <= most;
    }

    int sell(int ticket) {
        return act(now.copy(), sellNow(ticket));
    }

    private int sellNow(int ticket) {
        if (!in(ticket, 0, 599)) {
            return UNKNOWN;
        }
        if (now.winning[ticket / 100] != null) {
            return NOT_POSSIBLE;
        }
        return now.sold.add(ticket) ? 10 * now.soldOf(ticket / 100) : NONE;
    }

    int draw(int draw) {
        return act(now.copy(), drawNow(draw));
    }

    private int drawNow(int draw) {
        if (!in(draw, 0, 5)) {
            return UNKNOWN;
        }
        if (now.winning[draw] != null) {
            return NOT_POSSIBLE;
        }
        now.lot = (now.lot * 75 + 74) % 65537;
        now.winning[draw] = now.lot % 100;
        return now.winning[draw];
    }

    int come(int window, int ticket) {
        return act(now.copy(), comeNow(window, ticket));
    }

    private int comeNow(int window, int ticket) {
        if (!in(window, 0, 2) || !in(ticket, 0, 599)) {
            return UNKNOWN;
        }
        List<Integer> row = now.rows.get(window);
        if (row.size() == 8) {
            return FULL;
        }
        row.add(ticket);
        return row.size();
    }

    int leave(int ticket) {
        State before = now.copy();
        if (!in(ticket, 0, 599)) {
            return UNKNOWN;
        }
        int left = 0;
        for (List<Integer> row : now.rows) {
            int size = row.size();
            row.removeIf(t -> t == ticket);
            left += size - row.size();
        }
        return left == 0 ? NONE : act(before, left);
    }

    int pass(int ticks) {
        return act(now.copy(), passNow(ticks));
    }

    private int passNow(int ticks) {
        if (!in(ticks, 1, 99)) {
            return BAD_VALUE;
        }
        if (now.tick + ticks > 9999) {
            return FULL;
        }
        int before = now.coins();
        for (int i = 0; i < ticks; i++) {
            now.oneTick();
        }
        return now.coins() - before;
    }

    int set(int which, int value) {
        int[] least = {0, 1, 1};
        int[] most = {2, 9, 20};
        if (!in(which, 0, 2) || !in(value, least[which], most[which])) {
            return BAD_VALUE;
        }
        int previous = now.settings[which];
        if (previous == value) {
            return NONE;
        }
        State before = now.copy();
        now.settings[which] = value;
        return act(before, previous);
    }

    int type(char character) {
        if (text.length() == 60) {
            return FULL;
        }
        return text.append(character).length();
    }

    int clearText() {
        int length = text.length();
        text.setLength(0);
        return length;
    }

    private static final String TICKET = "(0|[1-9]|[1-9][0-9]|[1-5][0-9][0-9])";
    private static final String ORDER =
            "(s" + TICKET + "|c[0-2]:" + TICKET + "|d[0-5]|t([1-9]|[1-9][0-9]))";
    private static final Pattern ORDERS = Pattern.compile(ORDER + "(;" + ORDER + ")*");

    /** A beginning is allowed if some end makes orders of it; one of these does then. */
    private static boolean isBeginning(String start) {
        for (String end : List.of("", "0", "1", ":0", "0:0", "s0")) {
            if (ORDERS.matcher(start + end).matches()) {
                return true;
            }
        }
        return false;
    }

    int fault() {
        for (int i = 0; i < text.length(); i++) {
            if (!isBeginning(text.substring(0, i + 1))) {
                return i;
            }
        }
        return ORDERS.matcher(text).matches() ? NONE : text.length();
    }

    int doAll() {
        int fault = fault();
        if (fault != NONE) {
            return -100 - fault;
        }
        State before = now.copy();
        String[] orders = text.toString().split(";");
        for (String order : orders) {
            String[] numbers = order.substring(1).split(":");
            int first = Integer.parseInt(numbers[0]);
            int answer = switch (order.charAt(0)) {
                case 's' -> sellNow(first);
                case 'd' -> drawNow(first);
                case 't' -> passNow(first);
                default -> comeNow(first, Integer.parseInt(numbers[1]));
            };
            if (answer < 0 && answer != NONE) {
                now = before;
                return answer;
            }
        }
        return act(before, orders.length);
    }

    int undo() {
        if (past.isEmpty()) {
            return NONE;
        }
        now = past.removeLast();
        return past.size();
    }

    int keep() {
        snapshot = now.copy();
        return now.tick;
    }

    int restore() {
        if (snapshot == null) {
            return NONE;
        }
        State before = now;
        now = snapshot.copy();
        return act(before, now.tick);
    }

    int ticketOf(int ticket, int what) {
        if (!in(ticket, 0, 599)) {
            return UNKNOWN;
        }
        switch (what) {
            case 0: return now.sold.contains(ticket) ? 1 : 0;
            case 1: return now.prizeClass(ticket);
            case 2: return now.prize(ticket);
            case 3: return now.paymentsOf(ticket);
            case 4: return (int) now.payments.stream()
                    .filter(p -> p.ticket == ticket && p.calledBack).count();
            case 5: {
                int set = 0;
                for (int w = 0; w < 3; w++) {
                    set += now.marks.get(w).contains(ticket) ? 1 << w : 0;
                }
                return set;
            }
            case 6: return now.lent.contains(ticket) ? 1 : 0;
            case 7: return (int) now.rows.stream().flatMap(List::stream)
                    .filter(t -> t == ticket).count();
            case 8: return now.disputes.contains(ticket) ? 1 : 0;
            default: return BAD_VALUE;
        }
    }

    int drawOf(int draw, int what) {
        if (!in(draw, 0, 5)) {
            return UNKNOWN;
        }
        boolean drawn = now.winning[draw] != null;
        switch (what) {
            case 0: return 10 * now.soldOf(draw);
            case 1: return now.soldOf(draw);
            case 2: return drawn ? 1 : 0;
            case 3: return drawn ? now.winning[draw] : NONE;
            case 4: return drawn ? now.winners(draw, 1) : 0;
            case 5: return drawn ? now.winners(draw, 2) : 0;
            case 6: return drawn ? now.winners(draw, 3) : 0;
            case 7: return now.sold.stream().filter(t -> t / 100 == draw)
                    .mapToInt(now::prize).sum();
            default: return BAD_VALUE;
        }
    }

    int windowOf(int window, int what) {
        if (!in(window, 0, 2)) {
            return UNKNOWN;
        }
        List<Integer> row = now.rows.get(window);
        List<Integer> sent = now.sentAway.get(window);
        boolean waits = now.waitsFor[window] != null;
        switch (what) {
            case 0: return row.size();
            case 1: return row.isEmpty() ? NONE : row.get(0);
            case 2: return waits ? 1 : 0;
            case 3: return waits ? now.waitsFor[window] : NONE;
            case 4: return waits ? now.waited[window] : 0;
            case 5: return now.marks.get(window).size();
            case 6: return now.payments.stream().filter(p -> p.window == window)
                    .mapToInt(p -> p.coins).sum();
            case 7: return (int) now.payments.stream().filter(p -> p.window == window).count();
            case 8: return sent.size();
            case 9: return sent.isEmpty() ? 0 : sent.get(sent.size() - 1);
            default: return BAD_VALUE;
        }
    }

    int count(int what) {
        switch (what) {
            case 0: return now.tick;
            case 1: return now.mail.size();
            case 2: return now.coins();
            case 3: return now.coinsBack();
            case 4: return 10 * now.sold.size();
            case 5: return now.payments.size();
            case 6: return now.back();
            case 7: return now.opened;
            case 8: return now.disputes.size();
            case 9: return now.twice();
            case 10: return now.rows.stream().mapToInt(List::size).sum();
            case 11: return now.lot;
            case 12: return past.size();
            case 13: return text.length();
            case 14: return now.settings[0];
            case 15: return now.settings[1];
            case 16: return now.settings[2];
            default: return BAD_VALUE;
        }
    }

    int paid(boolean byTickets) {
        if (!byTickets) {
            return now.coins() - now.coinsBack();
        }
        int coins = 0;
        for (int t = 0; t < 600; t++) {
            coins += (ticketOf(t, 3) - ticketOf(t, 4)) * ticketOf(t, 2);
        }
        return coins;
    }

    int why(int window, int ticket) {
        if (!in(window, 0, 2) || !in(ticket, 0, 599)) {
            return UNKNOWN;
        }
        return now.why(window, ticket);
    }

    private State run(int rule, int ticks) {
        State then = now.copy();
        then.settings[0] = rule;
        for (int i = 0; i < ticks; i++) {
            then.oneTick();
        }
        return then;
    }

    int ifRule(int rule, int ticks, int what) {
        if (!in(rule, 0, 2) || !in(ticks, 1, 99) || !in(what, 0, 3)) {
            return BAD_VALUE;
        }
        State then = run(rule, ticks);
        switch (what) {
            case 0: return then.payments.size() - now.payments.size();
            case 1: return then.twice();
            case 2: return then.sent() - now.sent();
            default: return then.coins() - now.coins()
                    - (then.coinsBack() - now.coinsBack()) + 100000;
        }
    }

    int bestRule() {
        int best = NONE;
        int most = -1;
        for (int rule = 0; rule < 3; rule++) {
            State then = run(rule, 99);
            if (then.twice() <= now.twice() && then.payments.size() - then.back() > most) {
                most = then.payments.size() - then.back();
                best = rule;
            }
        }
        return best;
    }

    int shortest() {
        int best = 0;
        for (int w = 1; w < 3; w++) {
            int difference = now.rows.get(w).size() - now.rows.get(best).size();
            if (difference < 0
                    || difference == 0 && now.waitsFor[best] != null && now.waitsFor[w] == null) {
                best = w;
            }
        }
        return best;
    }
}
