import java.util.Arrays;
import java.util.NoSuchElementException;

/** Pay from which orders take; the words in capitals here are those of the document. */
public final class PayOrders {
    public static final int NONE = -1;

    private static final int NEVER = -2;

    private static final int NO_TROUBLE = 0;
    private static final int NO_SUCH = 1;
    private static final int BAD_NUMBER = 2;
    private static final int FAULTY = 4;
    private static final int NOT_SO = 5;

    private static final int FAULT_FORM = 1;
    private static final int FAULT_WHOLE = 2;
    private static final int FAULT_NAME = 3;
    private static final int FAULT_AGAIN = 4;
    private static final int FAULT_MANY = 5;
    private static final int FAULT_LACKS = 6;

    private static final int TAPE_LENGTH = 500;
    private static final int FEED_LENGTH = 20;
    private static final int LOG_LENGTH = 12;

    private static final int MOST_TABLES = 3;
    private static final int MOST_ROWS = 6;
    private static final int MOST_PAYERS = 3;
    private static final int MOST_ORDERS = 6;
    private static final int ALL_PAYERS = 7;

    private static final int MOST_KEEP = 999;
    private static final int MOST_HUNDREDTHS = 99;
    private static final int MOST_FROM = 9_999;
    private static final int MOST_WEEKS_OF_PAY = 4;
    private static final int MOST_RANK = 9;
    private static final int MOST_TOTAL = 99_999;
    private static final int MOST_SUM = 999;
    private static final int MOST_NET = 9_999;
    private static final int MOST_BACK = 99_999;
    private static final int MOST_WEEKS_PASSING = 60;
    private static final int MOST_WEEKS_OF_RUN = 200;
    private static final int MOST_WEEKS_OF_STEADY = 20;
    private static final int STEADY_STEP = 50;
    private static final int STEADY_TRIES = 200;
    private static final int REST_WITHOUT_END = 999_999;
    private static final int ABOVE_ALL_FLOORS = 1_000_000;

    private static final int KIND_SUM = 0;
    private static final int KIND_TABLE = 1;
    private static final int KIND_PART = 2;

    private final Tape tape;
    private final TextReader reader;
    private final Figure figure;
    private final Trial trial;
    private final Log log;
    private Desk desk;
    private Desk spareDesk;
    private int lastTrouble;
    private int lastFault;
    private int faultPlace;

    public PayOrders() {
        tape = new Tape();
        reader = new TextReader();
        figure = new Figure();
        trial = new Trial();
        log = new Log();
        desk = new Desk();
        spareDesk = new Desk();
        lastTrouble = NO_TROUBLE;
        lastFault = 0;
        faultPlace = NONE;
    }

    // ---- the desk

    public int feed(int a, int b, int c, int d, int e) {
        if (tape.count + FEED_LENGTH > TAPE_LENGTH) {
            return NONE;
        }
        tape.append(a);
        tape.append(b);
        tape.append(c);
        tape.append(d);
        tape.append(e);
        return tape.count;
    }

    public int desk(int n) {
        if (!within(n, 0, tape.count)) {
            return refuse(BAD_NUMBER);
        }
        lastFault = reader.read(tape.bytes, n, spareDesk);
        tape.count = 0;
        if (lastFault != 0) {
            faultPlace = reader.place;
            return refuse(FAULTY);
        }
        Desk former = desk;
        desk = spareDesk;
        spareDesk = former;
        log.clear();
        return granted(desk.orderCount);
    }

    public int fault() {
        return lastFault;
    }

    public int where() {
        return lastTrouble == FAULTY ? faultPlace : NONE;
    }

    public int about(int what) {
        if (!desk.isOpen() || !within(what, 0, 11)) {
            return refuse(NO_SUCH);
        }
        switch (what) {
            case 0: return granted(desk.keep);
            case 1: return granted(desk.part);
            case 2: return granted(desk.even ? 1 : 0);
            case 3: return granted(desk.tableCount);
            case 4: return granted(desk.payerCount);
            case 5: return granted(desk.orderCount);
            case 6: return granted(desk.week);
            case 7: return granted(desk.paysOfAll());
            case 8: return granted(desk.netsOfAll());
            case 9: return granted(desk.takenOfAll());
            case 10: return granted(desk.owedOfAll());
            default: return granted(desk.liveBits());
        }
    }

    public int order(int o, int what) {
        if (!desk.hasOrder(o) || !within(what, 0, 11)) {
            return refuse(NO_SUCH);
        }
        Order order = desk.orders[o];
        switch (what) {
            case 0: return granted(order.rank);
            case 1: return granted(order.keep);
            case 2: return granted(order.total);
            case 3: return granted(order.kind);
            case 4: return granted(order.amount);
            case 5: return granted(desk.payersOf(order));
            case 6: return granted(order.took);
            case 7: return granted(order.owed);
            case 8: return granted(order.rest());
            case 9: return granted(order.isLive() ? 1 : 0);
            case 10: return granted(order.stopped ? 1 : 0);
            default: return granted(order.paysTaken);
        }
    }

    public int payer(int p, int what) {
        if (!desk.hasPayer(p) || !within(what, 0, 4)) {
            return refuse(NO_SUCH);
        }
        Payer payer = desk.payers[p];
        switch (what) {
            case 0: return granted(payer.weeks);
            case 1: return granted(payer.pays);
            case 2: return granted(payer.nets);
            case 3: return granted(payer.taken);
            default: return granted(desk.liveBitsAt(p));
        }
    }

    public int table(int t, int net, int weeks) {
        if (!desk.hasTable(t)) {
            return refuse(NO_SUCH);
        }
        if (!isNet(net) || !within(weeks, 1, MOST_WEEKS_OF_PAY)) {
            return refuse(BAD_NUMBER);
        }
        return granted(desk.tables[t].tells(net, weeks));
    }

    public int row(int t, int i, int what) {
        if (!desk.hasTable(t) || !desk.tables[t].hasRow(i) || !within(what, 0, 1)) {
            return refuse(NO_SUCH);
        }
        Table table = desk.tables[t];
        return granted(what == 0 ? table.from[i] : table.take[i]);
    }

    public int floor(int p, int net) {
        if (!desk.hasPayer(p)) {
            return refuse(NO_SUCH);
        }
        if (!isNet(net)) {
            return refuse(BAD_NUMBER);
        }
        return granted(desk.floorOf(p, net));
    }

    public int ownFloor(int o, int p, int net) {
        if (!desk.hasOrder(o) || !desk.hasPayer(p)) {
            return refuse(NO_SUCH);
        }
        if (!isNet(net)) {
            return refuse(BAD_NUMBER);
        }
        return granted(desk.orders[o].floorAbove(desk.floorOf(p, net), desk.payers[p].weeks));
    }

    // ---- what was

    public int past(int i, int what) {
        if (!log.has(i) || !within(what, 0, 4)) {
            return refuse(NO_SUCH);
        }
        return granted(log.entry(i)[what]);
    }

    public int pastOf(int i, int o, int what) {
        if (!log.has(i) || !desk.hasOrder(o) || !within(what, 0, 1)) {
            return refuse(NO_SUCH);
        }
        return granted(log.entry(i)[what == 0 ? Log.WANTS + o : Log.TAKES + o]);
    }

    // ---- what would be

    public int would(int p, int net, int o, int what) {
        if (!desk.hasPayer(p) || !desk.hasOrder(o) || !within(what, 0, 2)) {
            return refuse(NO_SUCH);
        }
        if (!isNet(net)) {
            return refuse(BAD_NUMBER);
        }
        figure.reckon(desk, desk.orders, p, net);
        switch (what) {
            case 0: return granted(figure.want[o]);
            case 1: return granted(figure.take[o]);
            default: return granted(figure.owedThen(desk.orders, o));
        }
    }

    public int left(int p, int net) {
        if (!desk.hasPayer(p)) {
            return refuse(NO_SUCH);
        }
        if (!isNet(net)) {
            return refuse(BAD_NUMBER);
        }
        figure.reckon(desk, desk.orders, p, net);
        return granted(figure.left);
    }

    public int ranked(int p, int net, int rank) {
        if (!desk.hasPayer(p)) {
            return refuse(NO_SUCH);
        }
        if (!isNet(net) || !within(rank, 1, MOST_RANK)) {
            return refuse(BAD_NUMBER);
        }
        figure.reckon(desk, desk.orders, p, net);
        int taken = 0;
        for (int o = 0; o < desk.orderCount; o++) {
            if (desk.orders[o].rank == rank) {
                taken += figure.take[o];
            }
        }
        return granted(taken);
    }

    public int enough(int o, int p) {
        if (!desk.hasOrder(o) || !desk.hasPayer(p)) {
            return refuse(NO_SUCH);
        }
        if (!desk.orders[o].isLiveAt(p)) {
            return refuse(NOT_SO);
        }
        for (int net = 0; net <= MOST_NET; net++) {
            figure.reckon(desk, desk.orders, p, net);
            if (figure.want[o] > 0 && figure.take[o] == figure.want[o]) {
                return granted(net);
            }
        }
        return granted(NEVER);
    }

    public int first(int o, int p) {
        if (!desk.hasOrder(o) || !desk.hasPayer(p)) {
            return refuse(NO_SUCH);
        }
        if (!desk.orders[o].isLiveAt(p)) {
            return granted(NEVER);
        }
        for (int net = 0; net <= MOST_NET; net++) {
            figure.reckon(desk, desk.orders, p, net);
            if (figure.take[o] > 0) {
                return granted(net);
            }
        }
        return granted(NEVER);
    }

    public int done(int o, int net) {
        if (!desk.hasOrder(o)) {
            return refuse(NO_SUCH);
        }
        if (!isNet(net)) {
            return refuse(BAD_NUMBER);
        }
        if (desk.orders[o].rest() == 0) {
            return granted(0);
        }
        trial.begin(desk);
        for (int week = 1; week <= MOST_WEEKS_OF_RUN; week++) {
            trial.passWeek(desk, week, net);
            if (trial.orders[o].rest() == 0) {
                return granted(week);
            }
        }
        return granted(NEVER);
    }

    public int ahead(int o, int net, int n, int what) {
        if (!desk.hasOrder(o) || !within(what, 0, 1)) {
            return refuse(NO_SUCH);
        }
        if (!isNet(net) || !within(n, 1, MOST_WEEKS_OF_RUN)) {
            return refuse(BAD_NUMBER);
        }
        trial.run(desk, n, net);
        Order then = trial.orders[o];
        return granted(what == 0 ? then.took - desk.orders[o].took : then.owed);
    }

    public int steady(int n) {
        if (!desk.isOpen()) {
            return refuse(NO_SUCH);
        }
        if (!within(n, 1, MOST_WEEKS_OF_STEADY)) {
            return refuse(BAD_NUMBER);
        }
        for (int i = 0; i < STEADY_TRIES; i++) {
            trial.run(desk, n, i * STEADY_STEP);
            if (!trial.isLiveOneOwed(desk.orderCount)) {
                return granted(i * STEADY_STEP);
            }
        }
        return granted(NEVER);
    }

    // ---- acts

    public int weeks(int n) {
        if (!desk.isOpen()) {
            return refuse(NO_SUCH);
        }
        if (!within(n, 1, MOST_WEEKS_PASSING)) {
            return refuse(BAD_NUMBER);
        }
        for (int i = 0; i < n; i++) {
            desk.passWeek();
        }
        return granted(desk.owedOfAll());
    }

    public int pay(int p, int net) {
        if (!desk.hasPayer(p)) {
            return refuse(NO_SUCH);
        }
        if (!isNet(net)) {
            return refuse(BAD_NUMBER);
        }
        figure.reckon(desk, desk.orders, p, net);
        figure.settle(desk.orders, desk.orderCount);
        desk.payers[p].count(net, net - figure.left);
        log.note(p, net, desk.week, figure);
        return granted(figure.left);
    }

    public int stop(int o, boolean is) {
        if (!desk.hasOrder(o)) {
            return refuse(NO_SUCH);
        }
        Order order = desk.orders[o];
        if (order.stopped == is) {
            return refuse(NOT_SO);
        }
        order.stopped = is;
        return granted(order.owed);
    }

    public int rank(int o, int n) {
        if (!desk.hasOrder(o)) {
            return refuse(NO_SUCH);
        }
        if (!within(n, 1, MOST_RANK)) {
            return refuse(BAD_NUMBER);
        }
        Order order = desk.orders[o];
        int former = order.rank;
        order.rank = n;
        return granted(former);
    }

    public int raise(int o, int n) {
        if (!desk.hasOrder(o)) {
            return refuse(NO_SUCH);
        }
        Order order = desk.orders[o];
        if (order.kind == KIND_TABLE) {
            return refuse(NOT_SO);
        }
        if (!within(n, 1, order.kind == KIND_SUM ? MOST_SUM : MOST_HUNDREDTHS)) {
            return refuse(BAD_NUMBER);
        }
        int former = order.amount;
        order.amount = n;
        return granted(former);
    }

    public int total(int o, int n) {
        if (!desk.hasOrder(o)) {
            return refuse(NO_SUCH);
        }
        if (!within(n, 0, MOST_TOTAL)) {
            return refuse(BAD_NUMBER);
        }
        Order order = desk.orders[o];
        if (n > 0 && n < order.took) {
            return refuse(NOT_SO);
        }
        int former = order.total;
        order.total = n;
        order.owed = Math.min(order.owed, order.rest());
        return granted(former);
    }

    public int at(int o, int payers) {
        if (!desk.hasOrder(o)) {
            return refuse(NO_SUCH);
        }
        if (!within(payers, 1, ALL_PAYERS)) {
            return refuse(BAD_NUMBER);
        }
        Order order = desk.orders[o];
        int former = desk.payersOf(order);
        order.payers = payers;
        return granted(former);
    }

    public int back(int o, int n) {
        if (!desk.hasOrder(o)) {
            return refuse(NO_SUCH);
        }
        if (!within(n, 1, MOST_BACK)) {
            return refuse(BAD_NUMBER);
        }
        Order order = desk.orders[o];
        if (n > order.took) {
            return refuse(NOT_SO);
        }
        order.took -= n;
        return granted(order.rest());
    }

    public int forgive(int o) {
        if (!desk.hasOrder(o)) {
            return refuse(NO_SUCH);
        }
        Order order = desk.orders[o];
        int former = order.owed;
        order.owed = 0;
        return granted(former);
    }

    // ---- what is told

    public int turn(int p, int i) throws NoSuchElementException {
        int o = desk.hasPayer(p) ? desk.inTurn(p, i) : NONE;
        if (o == NONE) {
            throw new NoSuchElementException("no such turn");
        }
        return o;
    }

    public int size() {
        return tape.count;
    }

    public int trouble() {
        return lastTrouble;
    }

    private int refuse(int why) {
        lastTrouble = why;
        return NONE;
    }

    private int granted(int answer) {
        lastTrouble = NO_TROUBLE;
        return answer;
    }

    private static boolean within(int n, int least, int most) {
        return n >= least && n <= most;
    }

    private static boolean isNet(int n) {
        return within(n, 0, MOST_NET);
    }

    /** THE TAPE. */
    private static final class Tape {
        final byte[] bytes = new byte[TAPE_LENGTH];
        int count;

        void append(int four) {
            for (int shift = 24; shift >= 0 && count < bytes.length; shift -= 8) {
                bytes[count] = (byte) (four >> shift);
                count++;
            }
        }
    }

    /** A TABLE with its ROWS. */
    private static final class Table {
        final int[] from = new int[MOST_ROWS];
        final int[] take = new int[MOST_ROWS];
        int rowCount;
        boolean steps;

        void begin(boolean isSteps) {
            steps = isSteps;
            rowCount = 0;
        }

        boolean hasRow(int i) {
            return i >= 0 && i < rowCount;
        }

        int tells(int net, int weeks) {
            return steps ? ofSteps(net, weeks) : ofAll(net, weeks);
        }

        private int ofAll(int net, int weeks) {
            int hundredths = 0;
            for (int i = 0; i < rowCount && from[i] * weeks <= net; i++) {
                hundredths = take[i];
            }
            return hundredths * net / 100;
        }

        private int ofSteps(int net, int weeks) {
            int sum = 0;
            for (int i = 0; i < rowCount && from[i] * weeks < net; i++) {
                int upTo = i + 1 < rowCount ? Math.min(net, from[i + 1] * weeks) : net;
                sum += take[i] * (upTo - from[i] * weeks) / 100;
            }
            return sum;
        }
    }

    /** A PAYER, and what its PAYS came to. */
    private static final class Payer {
        int weeks;
        int pays;
        int nets;
        int taken;

        void begin(int weeksOfPay) {
            weeks = weeksOfPay;
            pays = 0;
            nets = 0;
            taken = 0;
        }

        void count(int net, int takenOfIt) {
            pays++;
            nets += net;
            taken += takenOfIt;
        }

        boolean paysInWeek(int number) {
            return weeks > 0 && number % weeks == 0;
        }
    }

    /** An ORDER: its terms, and how it stands. */
    private static final class Order {
        int rank;
        int keep;
        int total;
        int kind;
        int amount;
        int payers;
        boolean stopped;
        int took;
        int owed;
        int paysTaken;

        void begin() {
            stopped = false;
            took = 0;
            owed = 0;
            paysTaken = 0;
        }

        void copyFrom(Order other) {
            rank = other.rank;
            keep = other.keep;
            total = other.total;
            kind = other.kind;
            amount = other.amount;
            payers = other.payers;
            stopped = other.stopped;
            took = other.took;
            owed = other.owed;
            paysTaken = other.paysTaken;
        }

        int rest() {
            return total == 0 ? REST_WITHOUT_END : total - took;
        }

        boolean isLive() {
            return !stopped && rest() > 0;
        }

        boolean isLiveAt(int p) {
            return (payers >> p & 1) == 1 && isLive();
        }

        int floorAbove(int floorOfAll, int weeksOfPay) {
            return Math.max(floorOfAll, keep * weeksOfPay);
        }

        void fallDue() {
            if (kind == KIND_SUM && isLive()) {
                owed = Math.min(owed + amount, rest());
            }
        }

        int owedBehind(int wanted, int taken) {
            return kind == KIND_SUM ? owed - taken : wanted - taken;
        }

        void settle(int wanted, int taken) {
            owed = owedBehind(wanted, taken);
            took += taken;
            if (taken > 0) {
                paysTaken++;
            }
        }
    }

    /** A DESK; one without a PAYER stands for none, as no text makes such a one. */
    private static final class Desk {
        final Table[] tables = new Table[MOST_TABLES];
        final Payer[] payers = new Payer[MOST_PAYERS];
        final Order[] orders = new Order[MOST_ORDERS];
        int tableCount;
        int payerCount;
        int orderCount;
        int keep;
        int part;
        boolean even;
        int week;

        Desk() {
            for (int t = 0; t < MOST_TABLES; t++) {
                tables[t] = new Table();
            }
            for (int p = 0; p < MOST_PAYERS; p++) {
                payers[p] = new Payer();
            }
            for (int o = 0; o < MOST_ORDERS; o++) {
                orders[o] = new Order();
            }
        }

        void clear() {
            tableCount = 0;
            payerCount = 0;
            orderCount = 0;
            week = 0;
        }

        boolean isOpen() {
            return payerCount > 0;
        }

        boolean hasTable(int t) {
            return t >= 0 && t < tableCount;
        }

        boolean hasPayer(int p) {
            return p >= 0 && p < payerCount;
        }

        boolean hasOrder(int o) {
            return o >= 0 && o < orderCount;
        }

        int payersOf(Order order) {
            return order.payers & ((1 << payerCount) - 1);
        }

        int floorOf(int p, int net) {
            int partOfNet = (part * net + 99) / 100;
            return Math.max(keep * payers[p].weeks, partOfNet);
        }

        void passWeek() {
            week++;
            for (int o = 0; o < orderCount; o++) {
                orders[o].fallDue();
            }
        }

        int paysOfAll() {
            int sum = 0;
            for (int p = 0; p < payerCount; p++) {
                sum += payers[p].pays;
            }
            return sum;
        }

        int netsOfAll() {
            int sum = 0;
            for (int p = 0; p < payerCount; p++) {
                sum += payers[p].nets;
            }
            return sum;
        }

        // Counted at the PAYERS, as what is given back leaves it alone.
        int takenOfAll() {
            int sum = 0;
            for (int p = 0; p < payerCount; p++) {
                sum += payers[p].taken;
            }
            return sum;
        }

        int owedOfAll() {
            int sum = 0;
            for (int o = 0; o < orderCount; o++) {
                sum += orders[o].owed;
            }
            return sum;
        }

        int liveBits() {
            int bits = 0;
            for (int o = 0; o < orderCount; o++) {
                bits |= orders[o].isLive() ? 1 << o : 0;
            }
            return bits;
        }

        int liveBitsAt(int p) {
            int bits = 0;
            for (int o = 0; o < orderCount; o++) {
                bits |= orders[o].isLiveAt(p) ? 1 << o : 0;
            }
            return bits;
        }

        int inTurn(int p, int i) {
            int seen = 0;
            for (int rank = 1; rank <= MOST_RANK; rank++) {
                for (int o = 0; o < orderCount; o++) {
                    if (orders[o].rank == rank && orders[o].isLiveAt(p)) {
                        if (seen == i) {
                            return o;
                        }
                        seen++;
                    }
                }
            }
            return NONE;
        }
    }

    /** What one PAY comes to. Reckoning changes no ORDER; settling does. */
    private static final class Figure {
        final boolean[] present = new boolean[MOST_ORDERS];
        final int[] want = new int[MOST_ORDERS];
        final int[] take = new int[MOST_ORDERS];
        int floor;
        int left;
        private final int[] ownFloors = new int[MOST_ORDERS];
        private final int[] members = new int[MOST_ORDERS];
        private final int[] group = new int[MOST_ORDERS];
        private int memberCount;
        private int groupCount;

        void reckon(Desk desk, Order[] orders, int p, int net) {
            floor = desk.floorOf(p, net);
            left = net;
            int ranks = begin(orders, desk.orderCount, p);
            for (int rank = 1; rank <= MOST_RANK; rank++) {
                if ((ranks >> rank & 1) == 1) {
                    beginRank(desk, orders, p, net, rank);
                    shareRank(desk.even);
                }
            }
        }

        int owedThen(Order[] orders, int o) {
            return present[o] ? orders[o].owedBehind(want[o], take[o]) : orders[o].owed;
        }

        void settle(Order[] orders, int orderCount) {
            for (int o = 0; o < orderCount; o++) {
                if (present[o]) {
                    orders[o].settle(want[o], take[o]);
                }
            }
        }

        /** Answers which RANKS have an ORDER in this PAY, as bits. */
        private int begin(Order[] orders, int orderCount, int p) {
            int ranks = 0;
            for (int o = 0; o < MOST_ORDERS; o++) {
                want[o] = 0;
                take[o] = 0;
                present[o] = o < orderCount && orders[o].isLiveAt(p);
                if (present[o]) {
                    ranks |= 1 << orders[o].rank;
                }
            }
            return ranks;
        }

        private void beginRank(Desk desk, Order[] orders, int p, int net, int rank) {
            int weeks = desk.payers[p].weeks;
            int aboveFloor = Math.max(left - floor, 0);
            memberCount = 0;
            for (int o = 0; o < desk.orderCount; o++) {
                Order order = orders[o];
                if (present[o] && order.rank == rank) {
                    int asked = order.owed;
                    if (order.kind == KIND_TABLE && desk.hasTable(order.amount)) {
                        asked += desk.tables[order.amount].tells(net, weeks);
                    } else if (order.kind == KIND_PART) {
                        asked += order.amount * aboveFloor / 100;
                    }
                    want[o] = Math.min(asked, order.rest());
                    ownFloors[o] = order.floorAbove(floor, weeks);
                    members[memberCount] = o;
                    memberCount++;
                }
            }
        }

        private void shareRank(boolean even) {
            int above = ABOVE_ALL_FLOORS;
            for (int k = 0; k < memberCount; k++) {
                int bottom = greatestFloorBelow(above);
                if (bottom == NONE) {
                    return;
                }
                sharePool(bottom, even);
                above = bottom;
            }
        }

        private int greatestFloorBelow(int above) {
            int greatest = NONE;
            for (int k = 0; k < memberCount; k++) {
                int o = members[k];
                if (want[o] > 0 && ownFloors[o] < above) {
                    greatest = Math.max(greatest, ownFloors[o]);
                }
            }
            return greatest;
        }

        private void sharePool(int bottom, boolean even) {
            int pool = left - bottom;
            int wanted = gather(bottom);
            if (pool <= 0 || wanted <= 0) {
                return;
            }
            if (pool >= wanted) {
                giveAll();
                return;
            }
            if (even) {
                giveEvenly(bottom);
            } else {
                giveByParts(pool, wanted);
            }
            giveOneEach(left - bottom);
        }

        /** The group are those that the POOL above bottom is for; answers what they want yet. */
        private int gather(int bottom) {
            int wanted = 0;
            groupCount = 0;
            for (int k = 0; k < memberCount; k++) {
                int o = members[k];
                if (ownFloors[o] <= bottom && want[o] > take[o]) {
                    wanted += want[o] - take[o];
                    group[groupCount] = o;
                    groupCount++;
                }
            }
            return wanted;
        }

        private void give(int o, int n) {
            take[o] += n;
            left -= n;
        }

        private void giveAll() {
            for (int k = 0; k < groupCount; k++) {
                int o = group[k];
                give(o, want[o] - take[o]);
            }
        }

        // A round but the last leaves one fewer that wants, so there are no more rounds than ORDERS.
        private void giveEvenly(int bottom) {
            int hungry = groupCount;
            for (int round = 0; round <= MOST_ORDERS; round++) {
                int still = left - bottom;
                if (hungry <= 0 || still < hungry) {
                    return;
                }
                int each = still / hungry;
                hungry = 0;
                for (int k = 0; k < groupCount; k++) {
                    int o = group[k];
                    give(o, Math.min(each, want[o] - take[o]));
                    hungry += want[o] > take[o] ? 1 : 0;
                }
            }
        }

        private void giveByParts(int pool, int wanted) {
            for (int k = 0; k < groupCount && wanted > 0; k++) {
                int o = group[k];
                give(o, (int) ((long) pool * (want[o] - take[o]) / wanted));
            }
        }

        private void giveOneEach(int still) {
            int coins = still;
            for (int k = 0; k < groupCount && coins > 0; k++) {
                int o = group[k];
                if (want[o] > take[o]) {
                    give(o, 1);
                    coins--;
                }
            }
        }
    }

    /** A RUN, on ORDERS of its own, so that those of the DESK stay as they are. */
    private static final class Trial {
        final Order[] orders = new Order[MOST_ORDERS];
        private final Figure figure = new Figure();

        Trial() {
            for (int o = 0; o < MOST_ORDERS; o++) {
                orders[o] = new Order();
            }
        }

        void begin(Desk desk) {
            for (int o = 0; o < desk.orderCount; o++) {
                orders[o].copyFrom(desk.orders[o]);
            }
        }

        void passWeek(Desk desk, int number, int net) {
            for (int o = 0; o < desk.orderCount; o++) {
                orders[o].fallDue();
            }
            for (int p = 0; p < desk.payerCount; p++) {
                if (desk.payers[p].paysInWeek(number)) {
                    figure.reckon(desk, orders, p, net);
                    figure.settle(orders, desk.orderCount);
                }
            }
        }

        void run(Desk desk, int n, int net) {
            begin(desk);
            for (int number = 1; number <= n; number++) {
                passWeek(desk, number, net);
            }
        }

        boolean isLiveOneOwed(int orderCount) {
            for (int o = 0; o < orderCount; o++) {
                if (orders[o].isLive() && orders[o].owed > 0) {
                    return true;
                }
            }
            return false;
        }
    }

    /** THE LOG, its rows written round and round. */
    private static final class Log {
        static final int WANTS = 5;
        static final int TAKES = WANTS + MOST_ORDERS;

        private final int[][] entries = new int[LOG_LENGTH][TAKES + MOST_ORDERS];
        private int kept;
        private int next;

        void clear() {
            kept = 0;
            next = 0;
        }

        boolean has(int i) {
            return i >= 0 && i < kept;
        }

        int[] entry(int i) {
            return entries[(next + LOG_LENGTH - 1 - i) % LOG_LENGTH];
        }

        void note(int p, int net, int week, Figure figure) {
            int[] entry = entries[next];
            entry[0] = p;
            entry[1] = net;
            entry[2] = figure.floor;
            entry[3] = figure.left;
            entry[4] = week;
            for (int o = 0; o < MOST_ORDERS; o++) {
                entry[WANTS + o] = figure.want[o];
                entry[TAKES + o] = figure.take[o];
            }
            next = (next + 1) % LOG_LENGTH;
            kept = Math.min(kept + 1, LOG_LENGTH);
        }
    }

    /** Reads the text of a DESK; its methods answer false once a FAULT is met. */
    private static final class TextReader {
        private static final int END = 0;
        private static final int WORD = 1;
        private static final int WHOLE = 2;
        private static final int MARK = 3;
        private static final int NO_TOKEN = 4;

        private static final int LONGEST_WORD = 6;
        private static final int LONGEST_WHOLE = 5;

        // A WORD is kept as one number, a byte a letter, so that comparing it needs no text.
        private static final long W_DESK = 0x6465736bL;
        private static final long W_TABLE = 0x7461626c65L;
        private static final long W_PAYER = 0x7061796572L;
        private static final long W_ORDER = 0x6f72646572L;
        private static final long W_ALL = 0x616c6cL;
        private static final long W_KEEP = 0x6b656570L;
        private static final long W_PART = 0x70617274L;
        private static final long W_SHARE = 0x7368617265L;
        private static final long W_EVEN = 0x6576656eL;
        private static final long W_PARTS = 0x7061727473L;
        private static final long W_STEPS = 0x7374657073L;
        private static final long W_FROM = 0x66726f6dL;
        private static final long W_TAKE = 0x74616b65L;
        private static final long W_WEEKS = 0x7765656b73L;
        private static final long W_RANK = 0x72616e6bL;
        private static final long W_TOTAL = 0x746f74616cL;
        private static final long W_SUM = 0x73756dL;
        private static final long W_AT = 0x6174L;

        private static final int TABLES = 0;
        private static final int PAYERS = 1;
        private static final int ORDERS = 2;
        private static final int SORTS = 3;

        /** Where the token stands that is looked at; with a FAULT, its place. */
        int place;
        private int behind;
        private int length;
        private int token;
        private long value;
        private int number;
        private int fault;
        private boolean deskRead;
        private final long[][] names = new long[SORTS][MOST_ORDERS];
        private final int[] nameCounts = new int[SORTS];

        /** Answers the FAULT; without one (0) the text stands in the DESK. */
        int read(byte[] text, int n, Desk desk) {
            length = Math.min(n, text.length);
            behind = 0;
            fault = 0;
            deskRead = false;
            Arrays.fill(nameCounts, 0);
            desk.clear();
            boolean more = true;
            for (int lines = 0; lines <= TAPE_LENGTH && more; lines++) {
                advance(text);
                more = readLine(text, desk) && token == MARK;
            }
            if (fault == 0 && token != END) {
                fail(FAULT_FORM);
            } else if (fault == 0 && desk.payerCount == 0) {
                fail(FAULT_LACKS);
            }
            return fault;
        }

        private boolean readLine(byte[] text, Desk desk) {
            if (isWord(W_DESK)) {
                return deskRead ? fail(FAULT_AGAIN) : readDeskLine(text, desk);
            }
            if (!isWord(W_TABLE) && !isWord(W_PAYER) && !isWord(W_ORDER)) {
                return fail(FAULT_FORM);
            }
            if (!deskRead) {
                return fail(FAULT_LACKS);
            }
            if (isWord(W_TABLE)) {
                return readTable(text, desk);
            }
            return isWord(W_PAYER) ? readPayer(text, desk) : readOrder(text, desk);
        }

        private boolean readDeskLine(byte[] text, Desk desk) {
            deskRead = true;
            advance(text);
            if (!passWord(text, W_KEEP) || !passWhole(text, 0, MOST_KEEP)) {
                return false;
            }
            desk.keep = number;
            if (!passWord(text, W_PART) || !passWhole(text, 0, MOST_HUNDREDTHS)) {
                return false;
            }
            desk.part = number;
            if (!passWord(text, W_SHARE)) {
                return false;
            }
            desk.even = isWord(W_EVEN);
            return passWord(text, desk.even ? W_EVEN : W_PARTS);
        }

        private boolean readTable(byte[] text, Desk desk) {
            if (desk.tableCount >= MOST_TABLES) {
                return fail(FAULT_MANY);
            }
            advance(text);
            if (!passNewName(text, TABLES)) {
                return false;
            }
            Table table = desk.tables[desk.tableCount];
            desk.tableCount++;
            table.begin(isWord(W_STEPS));
            if (!passWord(text, table.steps ? W_STEPS : W_ALL)) {
                return false;
            }
            for (int i = 0; i < MOST_ROWS; i++) {
                if (!readRow(text, table, i)) {
                    return false;
                }
                if (!isWord(W_FROM)) {
                    return true;
                }
            }
            return fail(FAULT_MANY);
        }

        private boolean readRow(byte[] text, Table table, int i) {
            int least = i > 0 ? table.from[i - 1] + 1 : 0;
            if (!passWord(text, W_FROM) || !passWhole(text, least, MOST_FROM)) {
                return false;
            }
            table.from[i] = number;
            if (!passWord(text, W_TAKE) || !passWhole(text, 0, MOST_HUNDREDTHS)) {
                return false;
            }
            table.take[i] = number;
            table.rowCount = i + 1;
            return true;
        }

        private boolean readPayer(byte[] text, Desk desk) {
            if (desk.payerCount >= MOST_PAYERS) {
                return fail(FAULT_MANY);
            }
            advance(text);
            if (!passNewName(text, PAYERS) || !passWord(text, W_WEEKS)
                    || !passWhole(text, 1, MOST_WEEKS_OF_PAY)) {
                return false;
            }
            desk.payers[desk.payerCount].begin(number);
            desk.payerCount++;
            return true;
        }

        private boolean readOrder(byte[] text, Desk desk) {
            if (desk.orderCount >= MOST_ORDERS) {
                return fail(FAULT_MANY);
            }
            advance(text);
            Order order = desk.orders[desk.orderCount];
            desk.orderCount++;
            order.begin();
            if (!passNewName(text, ORDERS) || !passWord(text, W_RANK) || !passWhole(text, 1, MOST_RANK)) {
                return false;
            }
            order.rank = number;
            if (!passWord(text, W_KEEP) || !passWhole(text, 0, MOST_KEEP)) {
                return false;
            }
            order.keep = number;
            if (!passWord(text, W_TOTAL) || !passWhole(text, 0, MOST_TOTAL)) {
                return false;
            }
            order.total = number;
            return readKind(text, order) && passWord(text, W_AT) && readPlace(text, order);
        }

        private boolean readKind(byte[] text, Order order) {
            boolean read;
            if (isWord(W_SUM)) {
                order.kind = KIND_SUM;
                advance(text);
                read = passWhole(text, 1, MOST_SUM);
            } else if (isWord(W_TABLE)) {
                order.kind = KIND_TABLE;
                advance(text);
                read = passKnownName(text, TABLES);
            } else {
                order.kind = KIND_PART;
                read = passWord(text, W_PART) && passWhole(text, 1, MOST_HUNDREDTHS);
            }
            order.amount = number;
            return read;
        }

        private boolean readPlace(byte[] text, Order order) {
            if (isWord(W_ALL)) {
                order.payers = ALL_PAYERS;
                advance(text);
                return true;
            }
            if (!passKnownName(text, PAYERS)) {
                return false;
            }
            order.payers = 1 << number;
            return true;
        }

        private boolean passWord(byte[] text, long word) {
            if (!isWord(word)) {
                return fail(FAULT_FORM);
            }
            advance(text);
            return true;
        }

        private boolean passWhole(byte[] text, int least, int most) {
            if (token != WHOLE) {
                return fail(FAULT_FORM);
            }
            if (value < least || value > most) {
                return fail(FAULT_WHOLE);
            }
            number = (int) value;
            advance(text);
            return true;
        }

        private boolean passNewName(byte[] text, int sort) {
            if (!isName()) {
                return fail(FAULT_FORM);
            }
            if (findName(sort) != NONE || nameCounts[sort] >= MOST_ORDERS) {
                return fail(FAULT_NAME);
            }
            names[sort][nameCounts[sort]] = value;
            nameCounts[sort]++;
            advance(text);
            return true;
        }

        /** The number is then which one of its sort bears the NAME. */
        private boolean passKnownName(byte[] text, int sort) {
            if (!isName()) {
                return fail(FAULT_FORM);
            }
            int found = findName(sort);
            if (found == NONE) {
                return fail(FAULT_NAME);
            }
            number = found;
            advance(text);
            return true;
        }

        private int findName(int sort) {
            for (int i = 0; i < nameCounts[sort]; i++) {
                if (names[sort][i] == value) {
                    return i;
                }
            }
            return NONE;
        }

        private boolean isName() {
            return token == WORD && value != W_DESK && value != W_TABLE && value != W_PAYER
                    && value != W_ORDER && value != W_ALL;
        }

        private boolean isWord(long word) {
            return token == WORD && value == word;
        }

        private boolean fail(int why) {
            fault = why;
            return false;
        }

        private void advance(byte[] text) {
            int i = behind;
            while (i < length && text[i] == ' ') {
                i++;
            }
            place = i;
            behind = i + 1;
            value = 0;
            if (i >= length) {
                token = END;
                behind = length;
            } else if (text[i] >= 'a' && text[i] <= 'z') {
                scanWord(text);
            } else if (text[i] >= '0' && text[i] <= '9') {
                scanWhole(text);
            } else {
                token = text[i] == ';' ? MARK : NO_TOKEN;
            }
        }

        private void scanWord(byte[] text) {
            int i = place;
            while (i < length && text[i] >= 'a' && text[i] <= 'z') {
                value = value << 8 | text[i];
                i++;
            }
            behind = i;
            token = i - place <= LONGEST_WORD ? WORD : NO_TOKEN;
        }

        private void scanWhole(byte[] text) {
            int i = place;
            while (i < length && text[i] >= '0' && text[i] <= '9') {
                value = value * 10 + text[i] - '0';
                i++;
            }
            behind = i;
            token = i - place <= LONGEST_WHOLE ? WHOLE : NO_TOKEN;
        }
    }
}
