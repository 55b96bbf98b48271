/** Promises 25 to 31: orders stopped, moved, raised, money given back. */
public final class ActsTest {
    private static final Due due = new Due();

    public static void main(String[] args) {
        stop();
        rank();
        raise();
        total();
        at();
        back();
        forgive();
        due.end("ActsTest");
    }

    private static PayOrders made() {
        return Due.made("desk keep 0 part 0 share even;table t all from 0 take 10;payer p weeks 1;payer q weeks 2"
                + ";order a rank 1 keep 0 total 0 sum 30 at all"
                + ";order b rank 2 keep 0 total 0 table t at p"
                + ";order c rank 3 keep 0 total 90 part 30 at q");
    }

    private static void stop() {
        PayOrders x = made();
        x.weeks(2);
        due.refused(x, "stop(0, false)", x.stop(0, false), 5);
        due.is("stop(0, true)", x.stop(0, true), 60);
        due.refused(x, "stop(0, true) again", x.stop(0, true), 5);
        due.refused(x, "stop(3, true)", x.stop(3, true), 1);
        due.refused(x, "stop(-1, true)", x.stop(-1, true), 1);
        due.is("weeks(3)", x.weeks(3), 60);
        due.is("order(0, 9)", x.order(0, 9), 0);
        due.is("order(0, 10)", x.order(0, 10), 1);
        due.is("pay(1, 20)", x.pay(1, 20), 14);
        due.is("stop(0, false) again", x.stop(0, false), 60);
        due.is("weeks(1)", x.weeks(1), 90);
        due.is("pay(1, 20) then", x.pay(1, 20), 0);
        due.is("order(0, 7)", x.order(0, 7), 70);
        x.total(2, 6);
        due.is("one that is done is stopped, too", x.stop(2, true), 0);
    }

    private static void rank() {
        PayOrders x = made();
        x.weeks(1);
        due.is("rank(0, 9)", x.rank(0, 9), 1);
        due.is("rank(0, 9) again", x.rank(0, 9), 9);
        due.is("order(0, 0)", x.order(0, 0), 9);
        due.is("ranked(0, 30, 9)", x.ranked(0, 30, 9), 27);
        due.refused(x, "rank(0, 0)", x.rank(0, 0), 2);
        due.refused(x, "rank(0, 10)", x.rank(0, 10), 2);
        due.refused(x, "rank(3, 0)", x.rank(3, 0), 1);
        due.is("order(0, 0) then", x.order(0, 0), 9);
    }

    private static void raise() {
        PayOrders x = made();
        due.is("raise(0, 999)", x.raise(0, 999), 30);
        due.is("raise(0, 1)", x.raise(0, 1), 999);
        due.is("weeks(5)", x.weeks(5), 5);
        due.is("raise(0, 10)", x.raise(0, 10), 1);
        due.is("OWED stays", x.order(0, 7), 5);
        due.is("raise(2, 99)", x.raise(2, 99), 30);
        due.is("would(1, 105, 2, 0)", x.would(1, 105, 2, 0), 90);
        due.is("would(1, 55, 2, 0)", x.would(1, 55, 2, 0), 49);
        due.refused(x, "raise(0, 0)", x.raise(0, 0), 2);
        due.refused(x, "raise(0, 1000)", x.raise(0, 1000), 2);
        due.refused(x, "raise(2, 100)", x.raise(2, 100), 2);
        due.refused(x, "raise(2, 0)", x.raise(2, 0), 2);
        due.refused(x, "raise(1, 0)", x.raise(1, 0), 5);
        due.refused(x, "raise(1, 5)", x.raise(1, 5), 5);
        due.refused(x, "raise(3, 0)", x.raise(3, 0), 1);
        due.is("order(2, 4)", x.order(2, 4), 99);
    }

    private static void total() {
        PayOrders x = made();
        x.weeks(4);
        x.pay(0, 50);
        due.is("total(0, 99999)", x.total(0, 99_999), 0);
        due.is("order(0, 8)", x.order(0, 8), 99_949);
        due.is("OWED", x.order(0, 7), 70);
        due.is("total(0, 110)", x.total(0, 110), 99_999);
        due.is("OWED, REST at most", x.order(0, 7), 60);
        due.refused(x, "total(0, 49)", x.total(0, 49), 5);
        due.refused(x, "total(0, 1)", x.total(0, 1), 5);
        due.is("total(0, 50)", x.total(0, 50), 110);
        due.is("OWED 0", x.order(0, 7), 0);
        due.is("LIVE no more", x.order(0, 9), 0);
        due.is("total(0, 0)", x.total(0, 0), 50);
        due.is("REST without end", x.order(0, 8), 999_999);
        due.is("LIVE again", x.order(0, 9), 1);
        due.refused(x, "total(0, -1)", x.total(0, -1), 2);
        due.refused(x, "total(0, 100000)", x.total(0, 100_000), 2);
        due.refused(x, "total(3, -1)", x.total(3, -1), 1);
    }

    private static void at() {
        PayOrders x = made();
        due.is("at(0, 4)", x.at(0, 4), 3);
        due.is("order(0, 5)", x.order(0, 5), 0);
        due.is("payer(0, 4)", x.payer(0, 4), 2);
        due.is("weeks(1), at none", x.weeks(1), 30);
        due.is("at(0, 6)", x.at(0, 6), 0);
        due.is("at(0, 1)", x.at(0, 1), 2);
        due.is("at(1, 7)", x.at(1, 7), 1);
        due.is("order(1, 5)", x.order(1, 5), 3);
        due.is("payer(1, 4)", x.payer(1, 4), 6);
        due.refused(x, "at(0, 0)", x.at(0, 0), 2);
        due.refused(x, "at(0, 8)", x.at(0, 8), 2);
        due.refused(x, "at(0, -1)", x.at(0, -1), 2);
        due.refused(x, "at(3, 0)", x.at(3, 0), 1);
    }

    private static void back() {
        PayOrders x = made();
        x.pay(1, 500);
        due.is("c is done", x.order(2, 8), 0);
        due.is("back(2, 40)", x.back(2, 40), 40);
        due.is("TOOK", x.order(2, 6), 50);
        due.is("PAYS stay", x.order(2, 11), 1);
        due.is("LIVE again", x.order(2, 9), 1);
        due.refused(x, "back(2, 51)", x.back(2, 51), 5);
        due.is("back(2, 50)", x.back(2, 50), 90);
        due.refused(x, "back(2, 1)", x.back(2, 1), 5);
        due.refused(x, "back(2, 0)", x.back(2, 0), 2);
        due.refused(x, "back(2, 100000)", x.back(2, 100_000), 2);
        due.refused(x, "back(3, 0)", x.back(3, 0), 1);
        x.weeks(2);
        x.pay(0, 100);
        x.weeks(1);
        due.is("back(0, 5), without end", x.back(0, 5), 999_999);
        due.is("OWED stays", x.order(0, 7), 30);
        due.is("the log stays", x.pastOf(0, 0, 1), 60);
    }

    private static void forgive() {
        PayOrders x = made();
        x.weeks(2);
        due.is("forgive(0)", x.forgive(0), 60);
        due.is("forgive(0) again", x.forgive(0), 0);
        due.is("about(10)", x.about(10), 0);
        due.refused(x, "forgive(3)", x.forgive(3), 1);
        due.refused(x, "forgive(-1)", x.forgive(-1), 1);
        x.weeks(1);
        due.is("it falls due again", x.order(0, 7), 30);
    }
}
