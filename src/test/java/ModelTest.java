import java.util.NoSuchElementException;
import java.util.Random;

/**
 * Long runs of calls of all kinds, on good and on broken texts: each answer as the model's, no other exception.
 * No object is used for more than the 512 calls of which the document tells.
 */
public final class ModelTest {
    private static final String[] NAMES = {"a", "b", "c", "from", "keep", "zzzzzz", "sum"};
    private static final String[] STRAY = {"desk", "table", "payer", "order", "all", ";", "from", "0", "5", "99999",
        "100000", "abcdefg", "x", "?", "A", "\u00ff", "\u0000", "even", "at", " ", "take"};
    private static final int MOST_CALLS = 512;
    private static final int MOST_OF_A_STEP = 35;
    private final Random random;
    private final PayOrders x = new PayOrders();
    private final Model m = new Model();
    private final StringBuilder story = new StringBuilder();
    private int used;

    private ModelTest(long seed) {
        random = new Random(seed);
    }

    public static void main(String[] args) {
        int runs = args.length > 0 ? Integer.parseInt(args[0]) : 3500;
        long calls = 0;
        for (int seed = 0; seed < runs; seed++) {
            calls += new ModelTest(seed).run(seed);
        }
        System.out.println("ModelTest: " + runs + " runs, " + calls + " calls as due");
    }

    private int upTo(int n) {
        return random.nextInt(n + 1);
    }

    private int pick(int... of) {
        return of[random.nextInt(of.length)];
    }

    private String pick(String... of) {
        return of[random.nextInt(of.length)];
    }

    private int number(int least, int most) {
        switch (upTo(9)) {
            case 0: return least;
            case 1: return most;
            case 2: return random.nextInt(8) == 0 ? pick(least - 1, most + 1) : least;
            case 3: return least + upTo(Math.min(most - least, 5));
            default: return least + upTo(most - least);
        }
    }

    private int wild() {
        return pick(Integer.MIN_VALUE, Integer.MAX_VALUE, -1, random.nextInt());
    }

    private int net() {
        return upTo(40) == 0 ? wild() : upTo(2) == 0 ? number(0, 9999) : upTo(pick(40, 300, 1500));
    }

    private int one(int most) {
        return upTo(40) == 0 ? wild() : upTo(most);
    }

    // ---- texts

    private String text() {
        StringBuilder s = new StringBuilder();
        boolean small = random.nextBoolean();
        s.append("desk keep ").append(small ? upTo(60) : good(0, 999)).append(" part ")
                .append(small ? upTo(30) : good(0, 99)).append(" share ").append(pick("even", "parts"));
        int tables = upTo(3), payers = 1 + upTo(2), orders = upTo(6);
        for (int t = 0; t < tables; t++) {
            s.append(";table ").append(NAMES[t]).append(pick(" all", " steps"));
            int from = upTo(2) == 0 ? 0 : upTo(50);
            for (int i = 0; i <= upTo(3); i++) {
                s.append(" from ").append(from).append(" take ").append(good(0, 99));
                from += 1 + upTo(small ? 60 : 400);
            }
        }
        for (int p = 0; p < payers; p++) {
            s.append(";payer ").append(NAMES[p]).append(" weeks ").append(1 + upTo(3));
        }
        for (int o = 0; o < orders; o++) {
            s.append(";order ").append(NAMES[o]).append(" rank ").append(small ? 1 + upTo(1) : good(1, 9))
                    .append(" keep ").append(small ? pick(0, 20, 21, 40, 42, 70) : good(0, 999)).append(" total ")
                    .append(pick(0, 0, upTo(300), good(0, 99_999)));
            int kind = upTo(tables > 0 ? 2 : 1);
            s.append(kind == 0 ? " sum " + (small ? 1 + upTo(pick(3, 80)) : good(1, 999))
                    : kind == 1 ? " part " + good(1, 99) : " table " + NAMES[upTo(tables - 1)]);
            s.append(" at ").append(random.nextBoolean() ? "all" : NAMES[upTo(payers - 1)]);
        }
        return s.length() <= 500 ? s.toString() : s.substring(0, s.lastIndexOf(";order", 500 - 60));
    }

    private int good(int least, int most) {
        return Math.min(Math.max(number(least, most), least), most);
    }

    private String broken(String good) {
        StringBuilder s = new StringBuilder(good);
        for (int i = 0; i <= upTo(1); i++) {
            int at = upTo(s.length() - 1);
            switch (upTo(5)) {
                case 0: s.setLength(at + 1); break;
                case 1: s.insert(at, " " + pick(STRAY) + " "); break;
                case 2: s.deleteCharAt(at); break;
                case 3: s.insert(at, pick(STRAY)); break;
                case 4: s.setCharAt(at, (char) upTo(255)); break;
                default: twice(s); break;
            }
            if (s.length() == 0) {
                s.append(' ');
            }
        }
        return s.length() <= 500 ? s.toString() : s.substring(0, 500);
    }

    private void twice(StringBuilder s) {
        String[] lines = s.toString().split(";");
        s.append(';').append(lines[random.nextInt(lines.length)]);
    }

    // ---- calls

    private void same(String call, int got, int want) {
        story.append(call).append(" = ").append(want).append('\n');
        used += 5;
        if (got != want || x.trouble() != m.trouble || x.fault() != m.fault || x.where() != m.where()
                || x.size() != m.tape.length()) {
            System.out.println(story + "the last answered " + got + "; trouble " + x.trouble() + " for " + m.trouble
                    + ", fault " + x.fault() + " for " + m.fault + ", where " + x.where() + " for " + m.where());
            System.exit(1);
        }
    }

    private void tell(String text) {
        story.append("<").append(text).append(">\n");
        byte[] bytes = text.getBytes(java.nio.charset.StandardCharsets.ISO_8859_1);
        for (int i = 0; i < bytes.length; i += 20) {
            int[] f = new int[5];
            for (int k = 0; k < 5; k++) {
                f[k] = Due.four(bytes, i + 4 * k);
            }
            used++;
            int size = m.feed(f);
            if (x.feed(f[0], f[1], f[2], f[3], f[4]) != size) {
                System.out.println(story + "feed is not " + size);
                System.exit(1);
            }
        }
        int n = upTo(30) == 0 ? wild() : upTo(30) == 0 ? upTo(bytes.length) : bytes.length;
        same("desk(" + n + ")", x.desk(n), m.makeDesk(n));
    }

    private int run(int seed) {
        story.append("seed ").append(seed).append('\n');
        if (upTo(20) != 0) {
            for (int i = 0; i < 8 && seed % 3 == 0; i++) {
                tell(broken(text()));
            }
            tell(text());
        }
        for (int i = 0; used + MOST_OF_A_STEP <= MOST_CALLS; i++) {
            if (i % 60 == 59) {
                tell(random.nextBoolean() ? text() : broken(text()));
            }
            if (upTo(2) == 0) {
                ask(upTo(13));
            } else if (upTo(3) > 0) {
                act(upTo(14));
            } else {
                foresee(upTo(8));
            }
        }
        return used;
    }

    private void ask(int which) {
        int o = one(6), p = one(3), i = one(12), what = one(12), net = net();
        switch (which) {
            case 0: case 1: same("about " + what, x.about(what), m.about(what)); break;
            case 2: case 3: case 4: same("order " + o + " " + what, x.order(o, what), m.order(o, what)); break;
            case 5: what = one(5); same("payer " + p + " " + what, x.payer(p, what), m.payer(p, what)); break;
            case 6: int w = one(5); same("table " + p + " " + net + " " + w, x.table(p, net, w), m.table(p, net, w)); break;
            case 7: what = one(2); i = one(6); same("row " + p + " " + i + " " + what, x.row(p, i, what), m.row(p, i, what)); break;
            case 8: same("floor " + p + " " + net, x.floor(p, net), m.floor(p, net)); break;
            case 9: same("ownFloor " + o + " " + p + " " + net, x.ownFloor(o, p, net), m.ownFloor(o, p, net)); break;
            case 10: what = one(5); same("past " + i + " " + what, x.past(i, what), m.past(i, what)); break;
            case 11: case 12: what = one(2); i = one(5);
                same("pastOf " + i + " " + o + " " + what, x.pastOf(i, o, what), m.pastOf(i, o, what)); break;
            default: i = one(6); same("turn " + p + " " + i, turn(p, i), m.turn(p, i)); break;
        }
    }

    private int turn(int p, int i) {
        try {
            return x.turn(p, i);
        } catch (NoSuchElementException e) {
            return -1;
        }
    }

    private void act(int which) {
        int o = one(6), p = one(3), net = net(), n;
        switch (which) {
            case 0: case 1: case 2: n = upTo(3) == 0 ? number(1, 60) : 1 + upTo(3); same("weeks " + n, x.weeks(n), m.weeks(n)); break;
            case 3: case 4: case 5: case 6: case 7: same("pay " + p + " " + net, x.pay(p, net), m.pay(p, net)); break;
            case 8: boolean is = random.nextBoolean(); same("stop " + o + " " + is, x.stop(o, is), m.stop(o, is)); break;
            case 9: n = number(1, 9); same("rank " + o + " " + n, x.rank(o, n), m.rank(o, n)); break;
            case 10: n = number(1, pick(99, 999)); same("raise " + o + " " + n, x.raise(o, n), m.raise(o, n)); break;
            case 11: n = upTo(1) == 0 ? upTo(400) : number(0, 99_999); same("total " + o + " " + n, x.total(o, n), m.total(o, n)); break;
            case 12: n = number(1, 7); same("at " + o + " " + n, x.at(o, n), m.at(o, n)); break;
            case 13: n = upTo(4) > 0 ? upTo(60) : number(1, 99_999); same("back " + o + " " + n, x.back(o, n), m.back(o, n)); break;
            default: same("forgive " + o, x.forgive(o), m.forgive(o)); break;
        }
    }

    private void foresee(int which) {
        int o = one(6), p = one(3), net = net(), what = one(3), n;
        switch (which) {
            case 0: case 1: case 2: same("would " + p + " " + net + " " + o + " " + what, x.would(p, net, o, what), m.would(p, net, o, what)); break;
            case 3: same("left " + p + " " + net, x.left(p, net), m.left(p, net)); break;
            case 4: n = number(1, 9); same("ranked " + p + " " + net + " " + n, x.ranked(p, net, n), m.ranked(p, net, n)); break;
            case 5: same("done " + o + " " + net, x.done(o, net), m.done(o, net)); break;
            case 6: n = number(1, 200); same("ahead " + o + " " + net + " " + n + " " + what,
                    x.ahead(o, net, n, what), m.ahead(o, net, n, what)); break;
            case 7: if (upTo(3) == 0) {
                    same("enough " + o + " " + p, x.enough(o, p), m.enough(o, p));
                } else if (upTo(1) == 0) {
                    same("first " + o + " " + p, x.first(o, p), m.first(o, p));
                }
                break;
            default: n = number(1, 20); if (upTo(2) == 0) {
                    same("steady " + n, x.steady(n), m.steady(n));
                }
                break;
        }
    }
}
