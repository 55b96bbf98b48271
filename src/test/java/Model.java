import java.math.BigInteger;
import java.util.ArrayList;
import java.util.HashMap;
import java.util.List;
import java.util.Map;
import java.util.TreeSet;
import java.util.regex.Matcher;
import java.util.regex.Pattern;

/** The document once more, written another way: texts by patterns, shares coin by coin. Slow and plain. */
final class Model {
    record Token(String text, int place) { }

    static final class Fault extends Exception {
        private static final long serialVersionUID = 1L;
        final int number;
        final int place;

        Fault(int number, int place) {
            super(null, null, false, false);
            this.number = number;
            this.place = place;
        }
    }

    static final class Order implements Cloneable {
        int rank, keep, total, kind, amount, at, took, owed, pays;
        boolean stopped;

        int rest() {
            return total == 0 ? 999_999 : total - took;
        }

        boolean live() {
            return !stopped && rest() > 0;
        }

        boolean liveAt(int p) {
            return live() && (at & 1 << p) != 0;
        }

        Order copy() {
            try {
                return (Order) clone();
            } catch (CloneNotSupportedException e) {
                throw new IllegalStateException(e);
            }
        }
    }

    static final class Payer {
        int weeks, pays, nets, taken;
    }

    static final class Table {
        boolean steps;
        final List<int[]> rows = new ArrayList<>();
    }

    /** What a PAY comes to. */
    static final class Outcome {
        int floor, left;
        int[] want, take, owed;
        boolean[] there;
    }

    record Logged(int payer, int net, int week, Outcome outcome) { }

    static final class Desk {
        int keep, part, week;
        boolean even;
        final List<Table> tables = new ArrayList<>();
        final List<Payer> payers = new ArrayList<>();
        List<Order> orders = new ArrayList<>();
        final List<Logged> log = new ArrayList<>();
    }

    final StringBuilder tape = new StringBuilder();
    Desk desk;
    int trouble, fault, place = -1;

    // ---- texts

    private static final Pattern TOKEN = Pattern.compile(
            "(?<![a-z])[a-z]{1,6}(?![a-z])|(?<![0-9])[0-9]{1,5}(?![0-9])|;");

    static List<Token> tokens(String text) {
        List<Token> all = new ArrayList<>();
        Matcher m = TOKEN.matcher(text);
        int i = 0;
        while (i < text.length()) {
            if (text.charAt(i) == ' ') {
                i++;
            } else if (m.find(i) && m.start() == i) {
                all.add(new Token(m.group(), i));
                i = m.end();
            } else {
                all.add(new Token("?", i));
                return all;
            }
        }
        all.add(new Token("", text.length()));
        return all;
    }

    private static final Map<String, String> SHAPES = new HashMap<>();

    static {
        SHAPES.put("desk", "keep #0-999 part #0-99 share even|parts");
        SHAPES.put("payer", "!payer weeks #1-4");
        SHAPES.put("order", "!order rank #1-9 keep #0-999 total #0-99999 sum|table|part * at ~payer");
    }

    /** A text's tokens against shapes: # a whole in bounds, ! a new name, ~ a told one, * by the word ahead. */
    static final class Parser {
        final List<Token> in;
        int at;
        final Map<String, List<String>> told = new HashMap<>();
        final Desk desk = new Desk();
        boolean begun;

        Parser(String text) {
            in = tokens(text);
            for (String sort : new String[] {"table", "payer", "order"}) {
                told.put(sort, new ArrayList<>());
            }
        }

        Token now() {
            return in.get(at);
        }

        Fault faulty(int number) {
            return new Fault(number, now().place());
        }

        Desk all() throws Fault {
            while (true) {
                oneLine();
                if (now().text().isEmpty()) {
                    if (desk.payers.isEmpty()) {
                        throw faulty(6);
                    }
                    return desk;
                }
                one(";");
            }
        }

        void oneLine() throws Fault {
            String sort = now().text();
            if (!List.of("desk", "table", "payer", "order").contains(sort)) {
                throw faulty(1);
            }
            if (sort.equals("desk") && begun) {
                throw faulty(4);
            }
            if (!sort.equals("desk")) {
                if (told.get(sort).size() == (sort.equals("order") ? 6 : 3)) {
                    throw faulty(5);
                }
                if (!begun) {
                    throw faulty(6);
                }
            }
            begun = true;
            at++;
            if (sort.equals("table")) {
                table();
            } else {
                put(sort, shape(SHAPES.get(sort)));
            }
        }

        void table() throws Fault {
            one("!table");
            Table t = new Table();
            t.steps = one("all|steps").equals("steps");
            int least = 0;
            do {
                if (t.rows.size() == 6) {
                    throw faulty(5);
                }
                one("from");
                int from = Integer.parseInt(one("#" + least + "-9999"));
                one("take");
                t.rows.add(new int[] {from, Integer.parseInt(one("#0-99"))});
                least = from + 1;
            } while (now().text().equals("from"));
            desk.tables.add(t);
        }

        void put(String sort, List<String> w) {
            if (sort.equals("desk")) {
                desk.keep = Integer.parseInt(w.get(1));
                desk.part = Integer.parseInt(w.get(3));
                desk.even = w.get(5).equals("even");
            } else if (sort.equals("payer")) {
                Payer p = new Payer();
                p.weeks = Integer.parseInt(w.get(2));
                desk.payers.add(p);
            } else {
                Order o = new Order();
                o.rank = Integer.parseInt(w.get(2));
                o.keep = Integer.parseInt(w.get(4));
                o.total = Integer.parseInt(w.get(6));
                o.kind = List.of("sum", "table", "part").indexOf(w.get(7));
                o.amount = o.kind == 1 ? told.get("table").indexOf(w.get(8)) : Integer.parseInt(w.get(8));
                o.at = w.get(10).equals("all") ? 7 : 1 << told.get("payer").indexOf(w.get(10));
                desk.orders.add(o);
            }
        }

        List<String> shape(String shape) throws Fault {
            List<String> got = new ArrayList<>();
            for (String want : shape.split(" ")) {
                String w = want;
                if (w.equals("*")) {
                    w = Map.of("sum", "#1-999", "table", "~table", "part", "#1-99").get(got.get(got.size() - 1));
                }
                got.add(one(w));
            }
            return got;
        }

        String one(String want) throws Fault {
            String got = now().text();
            char c = want.charAt(0);
            if (c == '#') {
                if (!got.matches("[0-9]+")) {
                    throw faulty(1);
                }
                String[] bounds = want.substring(1).split("-");
                int n = Integer.parseInt(got);
                if (n < Integer.parseInt(bounds[0]) || n > Integer.parseInt(bounds[1])) {
                    throw faulty(2);
                }
            } else if (c == '!' || c == '~') {
                String sort = want.substring(1);
                boolean all = want.equals("~payer") && got.equals("all");
                if (!all) {
                    if (!got.matches("[a-z]+") || got.matches("desk|table|payer|order|all")) {
                        throw faulty(1);
                    }
                    if (told.get(sort).contains(got) == (c == '!')) {
                        throw faulty(3);
                    }
                }
                if (c == '!') {
                    told.get(sort).add(got);
                }
            } else if (got.isEmpty() || !List.of(want.split("\\|")).contains(got)) {
                throw faulty(1);
            }
            at++;
            return got;
        }
    }

    // ---- figures

    static int tells(Table t, int net, int weeks) {
        if (!t.steps) {
            int hundredths = 0;
            for (int[] row : t.rows) {
                if (row[0] * weeks <= net) {
                    hundredths = row[1];
                }
            }
            return Math.floorDiv(net * hundredths, 100);
        }
        int sum = 0;
        for (int i = 0; i < t.rows.size(); i++) {
            int low = t.rows.get(i)[0] * weeks;
            int high = i + 1 < t.rows.size() ? t.rows.get(i + 1)[0] * weeks : Integer.MAX_VALUE;
            int part = 0;
            if (net > low) {
                part = Math.min(net, high) - low;
            }
            sum += Math.floorDiv(part * t.rows.get(i)[1], 100);
        }
        return sum;
    }

    static int floorOf(Desk d, int p, int net) {
        int hundredth = d.part * net;
        int whole = hundredth / 100 + (hundredth % 100 > 0 ? 1 : 0);
        return Math.max(d.keep * d.payers.get(p).weeks, whole);
    }

    static int ownFloorOf(Desk d, Order o, int p, int net) {
        return Math.max(floorOf(d, p, net), o.keep * d.payers.get(p).weeks);
    }

    static Outcome figure(Desk d, List<Order> orders, int p, int net) {
        int n = orders.size();
        Outcome out = new Outcome();
        out.floor = floorOf(d, p, net);
        out.left = net;
        out.want = new int[n];
        out.take = new int[n];
        out.owed = new int[n];
        out.there = new boolean[n];
        TreeSet<Integer> ranks = new TreeSet<>();
        for (int o = 0; o < n; o++) {
            out.there[o] = orders.get(o).liveAt(p);
            if (out.there[o]) {
                ranks.add(orders.get(o).rank);
            }
        }
        for (int rank : ranks) {
            oneRank(d, orders, p, net, rank, out);
        }
        for (int o = 0; o < n; o++) {
            Order x = orders.get(o);
            out.owed[o] = !out.there[o] ? x.owed : x.kind == 0 ? x.owed - out.take[o] : out.want[o] - out.take[o];
        }
        return out;
    }

    private static void oneRank(Desk d, List<Order> orders, int p, int net, int rank, Outcome out) {
        int above = out.left > out.floor ? out.left - out.floor : 0;
        TreeSet<Integer> floors = new TreeSet<>();
        List<Integer> here = new ArrayList<>();
        for (int o = 0; o < orders.size(); o++) {
            Order x = orders.get(o);
            if (!out.there[o] || x.rank != rank) {
                continue;
            }
            int fresh = x.kind == 0 ? 0 : x.kind == 2 ? x.amount * above / 100
                    : tells(d.tables.get(x.amount), net, d.payers.get(p).weeks);
            out.want[o] = Math.min(fresh + x.owed, x.rest());
            if (out.want[o] > 0) {
                here.add(o);
                floors.add(ownFloorOf(d, x, p, net));
            }
        }
        for (int floor : floors.descendingSet()) {
            List<Integer> group = new ArrayList<>();
            for (int o : here) {
                if (ownFloorOf(d, orders.get(o), p, net) <= floor && out.want[o] > out.take[o]) {
                    group.add(o);
                }
            }
            if (out.left > floor && !group.isEmpty()) {
                share(d.even, out.left - floor, group, out);
            }
        }
    }

    private static void share(boolean even, int pool, List<Integer> group, Outcome out) {
        int coins = pool;
        if (!even) {
            BigInteger all = BigInteger.ZERO;
            for (int o : group) {
                all = all.add(BigInteger.valueOf(out.want[o] - out.take[o]));
            }
            BigInteger of = BigInteger.valueOf(pool).min(all);
            for (int o : group) {
                int part = of.multiply(BigInteger.valueOf(out.want[o] - out.take[o])).divide(all).intValueExact();
                out.take[o] += part;
                out.left -= part;
                coins -= part;
            }
        }
        boolean given = true;
        while (given) {
            given = false;
            for (int o : group) {
                if (coins > 0 && out.want[o] > out.take[o]) {
                    out.take[o]++;
                    out.left--;
                    coins--;
                    given = true;
                }
            }
        }
    }

    static void fallDue(List<Order> orders) {
        for (Order o : orders) {
            if (o.kind == 0 && o.live()) {
                o.owed = Math.min(o.owed + o.amount, o.rest());
            }
        }
    }

    static Outcome settle(Desk d, List<Order> orders, int p, int net) {
        Outcome out = figure(d, orders, p, net);
        for (int o = 0; o < orders.size(); o++) {
            Order x = orders.get(o);
            x.owed = out.owed[o];
            x.took += out.take[o];
            x.pays += out.take[o] > 0 ? 1 : 0;
        }
        return out;
    }

    List<Order> copies() {
        List<Order> all = new ArrayList<>();
        for (Order o : desk.orders) {
            all.add(o.copy());
        }
        return all;
    }

    void runWeek(List<Order> orders, int number, int net) {
        fallDue(orders);
        for (int p = 0; p < desk.payers.size(); p++) {
            if (number % desk.payers.get(p).weeks == 0) {
                settle(desk, orders, p, net);
            }
        }
    }

    // ---- calls

    private int no(int why) {
        trouble = why;
        return -1;
    }

    private int yes(int answer) {
        trouble = 0;
        return answer;
    }

    private static boolean in(int n, int least, int most) {
        return least <= n && n <= most;
    }

    private boolean isOrder(int o) {
        return desk != null && in(o, 0, desk.orders.size() - 1);
    }

    private boolean isPayer(int p) {
        return desk != null && in(p, 0, desk.payers.size() - 1);
    }

    private boolean isTable(int t) {
        return desk != null && in(t, 0, desk.tables.size() - 1);
    }

    int feed(int[] five) {
        if (tape.length() > 480) {
            return -1;
        }
        for (int n : five) {
            for (int k = 3; k >= 0; k--) {
                tape.append((char) (n >>> 8 * k & 255));
            }
        }
        return tape.length();
    }

    int makeDesk(int n) {
        if (!in(n, 0, tape.length())) {
            return no(2);
        }
        String text = tape.substring(0, n);
        tape.setLength(0);
        try {
            desk = new Parser(text).all();
            fault = 0;
            return yes(desk.orders.size());
        } catch (Fault f) {
            fault = f.number;
            place = f.place;
            return no(4);
        }
    }

    int where() {
        return trouble == 4 ? place : -1;
    }

    int about(int what) {
        if (desk == null || !in(what, 0, 11)) {
            return no(1);
        }
        int pays = 0, nets = 0, taken = 0, owed = 0, live = 0;
        for (Payer p : desk.payers) {
            pays += p.pays;
            nets += p.nets;
            taken += p.taken;
        }
        for (int o = 0; o < desk.orders.size(); o++) {
            owed += desk.orders.get(o).owed;
            live += desk.orders.get(o).live() ? 1 << o : 0;
        }
        int[] all = {desk.keep, desk.part, desk.even ? 1 : 0, desk.tables.size(), desk.payers.size(),
            desk.orders.size(), desk.week, pays, nets, taken, owed, live};
        return yes(all[what]);
    }

    private int payersOf(Order o) {
        return o.at & (1 << desk.payers.size()) - 1;
    }

    int order(int o, int what) {
        if (!isOrder(o) || !in(what, 0, 11)) {
            return no(1);
        }
        Order x = desk.orders.get(o);
        int[] all = {x.rank, x.keep, x.total, x.kind, x.amount, payersOf(x), x.took, x.owed, x.rest(),
            x.live() ? 1 : 0, x.stopped ? 1 : 0, x.pays};
        return yes(all[what]);
    }

    int payer(int p, int what) {
        if (!isPayer(p) || !in(what, 0, 4)) {
            return no(1);
        }
        int live = 0;
        for (int o = 0; o < desk.orders.size(); o++) {
            live += desk.orders.get(o).liveAt(p) ? 1 << o : 0;
        }
        Payer x = desk.payers.get(p);
        return yes(new int[] {x.weeks, x.pays, x.nets, x.taken, live}[what]);
    }

    int table(int t, int net, int weeks) {
        if (!isTable(t)) {
            return no(1);
        }
        return in(net, 0, 9999) && in(weeks, 1, 4) ? yes(tells(desk.tables.get(t), net, weeks)) : no(2);
    }

    int row(int t, int i, int what) {
        if (!isTable(t) || !in(i, 0, desk.tables.get(t).rows.size() - 1) || !in(what, 0, 1)) {
            return no(1);
        }
        return yes(desk.tables.get(t).rows.get(i)[what]);
    }

    int floor(int p, int net) {
        return !isPayer(p) ? no(1) : !in(net, 0, 9999) ? no(2) : yes(floorOf(desk, p, net));
    }

    int ownFloor(int o, int p, int net) {
        return !isOrder(o) || !isPayer(p) ? no(1) : !in(net, 0, 9999) ? no(2)
                : yes(ownFloorOf(desk, desk.orders.get(o), p, net));
    }

    private boolean isLogged(int i) {
        return desk != null && in(i, 0, Math.min(desk.log.size(), 12) - 1);
    }

    private Logged logged(int i) {
        return desk.log.get(desk.log.size() - 1 - i);
    }

    int past(int i, int what) {
        if (!isLogged(i) || !in(what, 0, 4)) {
            return no(1);
        }
        Logged l = logged(i);
        return yes(new int[] {l.payer(), l.net(), l.outcome().floor, l.outcome().left, l.week()}[what]);
    }

    int pastOf(int i, int o, int what) {
        if (!isLogged(i) || !isOrder(o) || !in(what, 0, 1)) {
            return no(1);
        }
        Outcome out = logged(i).outcome();
        return yes((what == 0 ? out.want : out.take)[o]);
    }

    int would(int p, int net, int o, int what) {
        if (!isPayer(p) || !isOrder(o) || !in(what, 0, 2)) {
            return no(1);
        }
        if (!in(net, 0, 9999)) {
            return no(2);
        }
        Outcome out = figure(desk, desk.orders, p, net);
        return yes(new int[][] {out.want, out.take, out.owed}[what][o]);
    }

    int left(int p, int net) {
        return !isPayer(p) ? no(1) : !in(net, 0, 9999) ? no(2) : yes(figure(desk, desk.orders, p, net).left);
    }

    int ranked(int p, int net, int rank) {
        if (!isPayer(p)) {
            return no(1);
        }
        if (!in(net, 0, 9999) || !in(rank, 1, 9)) {
            return no(2);
        }
        Outcome out = figure(desk, desk.orders, p, net);
        int sum = 0;
        for (int o = 0; o < desk.orders.size(); o++) {
            sum += desk.orders.get(o).rank == rank ? out.take[o] : 0;
        }
        return yes(sum);
    }

    int enough(int o, int p) {
        if (!isOrder(o) || !isPayer(p)) {
            return no(1);
        }
        if (!desk.orders.get(o).liveAt(p)) {
            return no(5);
        }
        for (int net = 0; net < 10_000; net++) {
            Outcome out = figure(desk, desk.orders, p, net);
            if (out.want[o] > 0 && out.want[o] == out.take[o]) {
                return yes(net);
            }
        }
        return yes(-2);
    }

    int first(int o, int p) {
        if (!isOrder(o) || !isPayer(p)) {
            return no(1);
        }
        for (int net = 0; net < 10_000; net++) {
            if (figure(desk, desk.orders, p, net).take[o] > 0) {
                return yes(net);
            }
        }
        return yes(-2);
    }

    int done(int o, int net) {
        if (!isOrder(o)) {
            return no(1);
        }
        if (!in(net, 0, 9999)) {
            return no(2);
        }
        List<Order> run = copies();
        for (int week = 0; week <= 200; week++) {
            if (week > 0) {
                runWeek(run, week, net);
            }
            if (run.get(o).rest() == 0) {
                return yes(week);
            }
        }
        return yes(-2);
    }

    int ahead(int o, int net, int n, int what) {
        if (!isOrder(o) || !in(what, 0, 1)) {
            return no(1);
        }
        if (!in(net, 0, 9999) || !in(n, 1, 200)) {
            return no(2);
        }
        List<Order> run = copies();
        for (int week = 1; week <= n; week++) {
            runWeek(run, week, net);
        }
        return yes(what == 0 ? run.get(o).took - desk.orders.get(o).took : run.get(o).owed);
    }

    int steady(int n) {
        if (desk == null) {
            return no(1);
        }
        if (!in(n, 1, 20)) {
            return no(2);
        }
        for (int net = 0; net <= 9950; net += 50) {
            List<Order> run = copies();
            for (int week = 1; week <= n; week++) {
                runWeek(run, week, net);
            }
            if (run.stream().noneMatch(o -> o.live() && o.owed > 0)) {
                return yes(net);
            }
        }
        return yes(-2);
    }

    int weeks(int n) {
        if (desk == null) {
            return no(1);
        }
        if (!in(n, 1, 60)) {
            return no(2);
        }
        for (int i = 0; i < n; i++) {
            fallDue(desk.orders);
        }
        desk.week += n;
        return yes(desk.orders.stream().mapToInt(o -> o.owed).sum());
    }

    int pay(int p, int net) {
        if (!isPayer(p)) {
            return no(1);
        }
        if (!in(net, 0, 9999)) {
            return no(2);
        }
        Outcome out = settle(desk, desk.orders, p, net);
        Payer x = desk.payers.get(p);
        x.pays++;
        x.nets += net;
        for (int take : out.take) {
            x.taken += take;
        }
        desk.log.add(new Logged(p, net, desk.week, out));
        return yes(out.left);
    }

    int stop(int o, boolean is) {
        if (!isOrder(o)) {
            return no(1);
        }
        Order x = desk.orders.get(o);
        if (x.stopped == is) {
            return no(5);
        }
        x.stopped = is;
        return yes(x.owed);
    }

    int rank(int o, int n) {
        if (!isOrder(o)) {
            return no(1);
        }
        if (!in(n, 1, 9)) {
            return no(2);
        }
        int was = desk.orders.get(o).rank;
        desk.orders.get(o).rank = n;
        return yes(was);
    }

    int raise(int o, int n) {
        if (!isOrder(o)) {
            return no(1);
        }
        Order x = desk.orders.get(o);
        if (x.kind == 1) {
            return no(5);
        }
        if (!in(n, 1, x.kind == 0 ? 999 : 99)) {
            return no(2);
        }
        int was = x.amount;
        x.amount = n;
        return yes(was);
    }

    int total(int o, int n) {
        if (!isOrder(o)) {
            return no(1);
        }
        if (!in(n, 0, 99_999)) {
            return no(2);
        }
        Order x = desk.orders.get(o);
        if (n > 0 && x.took > n) {
            return no(5);
        }
        int was = x.total;
        x.total = n;
        if (x.owed > x.rest()) {
            x.owed = x.rest();
        }
        return yes(was);
    }

    int at(int o, int payers) {
        if (!isOrder(o)) {
            return no(1);
        }
        if (!in(payers, 1, 7)) {
            return no(2);
        }
        int was = payersOf(desk.orders.get(o));
        desk.orders.get(o).at = payers;
        return yes(was);
    }

    int back(int o, int n) {
        if (!isOrder(o)) {
            return no(1);
        }
        if (!in(n, 1, 99_999)) {
            return no(2);
        }
        Order x = desk.orders.get(o);
        if (x.took < n) {
            return no(5);
        }
        x.took -= n;
        return yes(x.rest());
    }

    int forgive(int o) {
        if (!isOrder(o)) {
            return no(1);
        }
        int was = desk.orders.get(o).owed;
        desk.orders.get(o).owed = 0;
        return yes(was);
    }

    /** -1 stands for the exception. */
    int turn(int p, int i) {
        if (!isPayer(p)) {
            return -1;
        }
        List<Integer> all = new ArrayList<>();
        for (int o = 0; o < desk.orders.size(); o++) {
            if (desk.orders.get(o).liveAt(p)) {
                all.add(o);
            }
        }
        all.sort((a, b) -> Integer.compare(desk.orders.get(a).rank, desk.orders.get(b).rank));
        return in(i, 0, all.size() - 1) ? all.get(i) : -1;
    }
}
