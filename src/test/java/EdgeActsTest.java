/** The boundary cases of what acts do: promises 25 to 31. */
public final class EdgeActsTest {
    private static final Due due = new Due();

    public static void main(String[] args) {
        stop();
        rank();
        raise();
        total();
        totalAndOwed();
        totalOfAsMuchAsMayBe();
        at();
        atAll();
        back();
        backOfAsMuchAsMayBe();
        forgive();
        due.end("EdgeActsTest");
    }

    private static PayOrders made(String orders) {
        return Due.made("desk keep 0 part 0 share even;table t all from 0 take 10;payer p weeks 1;payer q weeks 2"
                + orders);
    }

    private static void stop() {
        due.by("Promise 25, OWED (which stays; none falls due meanwhile)");
        PayOrders x = made(";order a rank 1 keep 0 total 100 sum 30 at all;order b rank 1 keep 99 total 0 table t at p");
        due.granted(x, "stop with nothing OWED", x.stop(0, true), 0);
        due.is("a WEEK", x.weeks(1), 0);
        due.granted(x, "stop not any more", x.stop(0, false), 0);
        due.is("a WEEK", x.weeks(1), 30);
        x.pay(0, 0);
        due.granted(x, "stop with OWED", x.stop(0, true), 30);
        due.is("WEEKS", x.weeks(60), 30);
        due.is("OWED stays", x.order(0, 7), 30);
        due.is("PAYS take nothing", x.pay(1, 50), 50);
        due.is("OWED stays", x.order(0, 7), 30);
        due.is("REST stays", x.order(0, 8), 100);
        due.granted(x, "stop not any more", x.stop(0, false), 30);
        due.is("a WEEK", x.weeks(1), 60);
        due.is("PAYS take", x.pay(1, 50), 0);
        due.is("what is short of a table", x.pay(0, 99), 89);
        due.is("OWED of a table", x.order(1, 7), 9);
        due.granted(x, "stop of a table", x.stop(1, true), 9);
        x.pay(0, 9999);
        due.is("OWED stays", x.order(1, 7), 9);
        due.granted(x, "stop of a table not any more", x.stop(1, false), 9);
        due.by("Promise 25, NONE: 5 (it is so)");
        due.refused(x, "stop(1, false)", x.stop(1, false), 5);
        due.is("STOPPED", x.order(1, 10), 0);
        due.granted(x, "stop(1, true)", x.stop(1, true), 9);
        due.refused(x, "stop(1, true)", x.stop(1, true), 5);
        due.is("STOPPED", x.order(1, 10), 1);
    }

    private static void rank() {
        due.by("Promise 26, RANK (1 .. 9) of an ORDER is another one: what it was");
        PayOrders x = made(";order a rank 1 keep 0 total 0 sum 10 at p;order b rank 2 keep 0 total 0 sum 10 at p");
        x.weeks(1);
        due.granted(x, "rank(0, 9)", x.rank(0, 9), 1);
        due.is("turn(0, 0)", x.turn(0, 0), 1);
        due.is("ranked(0, 11, 9)", x.ranked(0, 11, 9), 1);
        due.is("ranked(0, 11, 2)", x.ranked(0, 11, 2), 10);
        due.granted(x, "rank(1, 9)", x.rank(1, 9), 2);
        due.is("ranked(0, 11, 9)", x.ranked(0, 11, 9), 11);
        due.is("would(0, 11, 0, 1)", x.would(0, 11, 0, 1), 6);
        due.granted(x, "rank(1, 1)", x.rank(1, 1), 9);
        due.granted(x, "rank(1, 1), as it is", x.rank(1, 1), 1);
        due.is("order(1, 0)", x.order(1, 0), 1);
        due.refused(x, "rank(1, 0)", x.rank(1, 0), 2);
        due.refused(x, "rank(1, 10)", x.rank(1, 10), 2);
        due.is("order(1, 0)", x.order(1, 0), 1);
        x.stop(1, true);
        due.granted(x, "rank of a STOPPED one", x.rank(1, 5), 1);
    }

    private static void raise() {
        due.by("Promise 27, an ORDER's sum (1 .. 999), or hundredths (1 .. 99), are others: what they were");
        PayOrders x = made(";order a rank 1 keep 0 total 0 sum 10 at p;order b rank 2 keep 0 total 0 part 10 at p"
                + ";order c rank 3 keep 0 total 0 table t at p");
        due.granted(x, "raise(0, 999)", x.raise(0, 999), 10);
        due.is("weeks(1)", x.weeks(1), 999);
        due.granted(x, "raise(0, 1)", x.raise(0, 1), 999);
        due.is("OWED is as it was", x.order(0, 7), 999);
        due.is("weeks(1)", x.weeks(1), 1000);
        due.is("order(0, 4)", x.order(0, 4), 1);
        due.refused(x, "raise(0, 0)", x.raise(0, 0), 2);
        due.refused(x, "raise(0, 1000)", x.raise(0, 1000), 2);
        x.forgive(0);
        due.granted(x, "raise(1, 99)", x.raise(1, 99), 10);
        due.is("would(0, 100, 1, 0)", x.would(0, 100, 1, 0), 99);
        due.granted(x, "raise(1, 1)", x.raise(1, 1), 99);
        due.is("would(0, 100, 1, 0)", x.would(0, 100, 1, 0), 1);
        due.refused(x, "raise(1, 0)", x.raise(1, 0), 2);
        due.refused(x, "raise(1, 100)", x.raise(1, 100), 2);
        due.is("order(1, 4)", x.order(1, 4), 1);
        due.by("Promise 27, NONE: 5 (a table), ahead of 2");
        due.refused(x, "raise(2, 1)", x.raise(2, 1), 5);
        due.refused(x, "raise(2, 0)", x.raise(2, 0), 5);
        due.refused(x, "raise(2, 1000)", x.raise(2, 1000), 5);
        due.is("order(2, 4)", x.order(2, 4), 0);
    }

    private static void total() {
        due.by("Promise 28, NONE: 5 (above 0 and less than it TOOK)");
        PayOrders x = made(";order a rank 1 keep 0 total 0 sum 50 at p");
        due.granted(x, "total(0, 1), nothing TAKEN", x.total(0, 1), 0);
        due.granted(x, "total(0, 99999)", x.total(0, 99_999), 1);
        x.weeks(1);
        x.pay(0, 50);
        due.refused(x, "total(0, 1)", x.total(0, 1), 5);
        due.refused(x, "total(0, 49)", x.total(0, 49), 5);
        due.is("TOTAL stays", x.order(0, 2), 99_999);
        due.granted(x, "total(0, 50)", x.total(0, 50), 99_999);
        due.is("REST 0", x.order(0, 8), 0);
        due.is("LIVE", x.order(0, 9), 0);
        due.granted(x, "total(0, 51)", x.total(0, 51), 50);
        due.is("REST 1", x.order(0, 8), 1);
        due.is("LIVE", x.order(0, 9), 1);
        due.granted(x, "total(0, 0), without end", x.total(0, 0), 51);
        due.is("REST without end", x.order(0, 8), 999_999);
        due.is("TOTAL", x.order(0, 2), 0);
        due.by("Promise 28, NONE: 2, ahead of 5");
        due.refused(x, "total(0, -1)", x.total(0, -1), 2);
        due.refused(x, "total(0, 100000)", x.total(0, 100_000), 2);
        due.is("TOTAL", x.order(0, 2), 0);
        x.back(0, 50);
        due.by("Promise 28, what it TOOK is without what was given back");
        due.granted(x, "total(0, 1)", x.total(0, 1), 0);
    }

    private static void totalAndOwed() {
        due.by("Promise 28, OWED REST at most then");
        PayOrders x = made(";order a rank 1 keep 0 total 0 sum 50 at p");
        x.weeks(2);
        x.pay(0, 30);
        due.is("OWED", x.order(0, 7), 70);
        due.granted(x, "total(0, 101)", x.total(0, 101), 0);
        due.is("OWED below REST", x.order(0, 7), 70);
        due.granted(x, "total(0, 100)", x.total(0, 100), 101);
        due.is("OWED as REST", x.order(0, 7), 70);
        due.granted(x, "total(0, 99)", x.total(0, 99), 100);
        due.is("OWED above REST", x.order(0, 7), 69);
        due.granted(x, "total(0, 31)", x.total(0, 31), 99);
        due.is("OWED", x.order(0, 7), 1);
        due.granted(x, "total(0, 0)", x.total(0, 0), 31);
        due.is("OWED is no more than it was", x.order(0, 7), 1);
        x.stop(0, true);
        due.granted(x, "total(0, 30) of a STOPPED one", x.total(0, 30), 0);
        due.is("OWED", x.order(0, 7), 0);
    }

    private static void totalOfAsMuchAsMayBe() {
        due.by("Promise 28, TOTAL 99,999 and what it TOOK without end");
        PayOrders x = made(";order a rank 1 keep 0 total 0 sum 999 at p");
        x.weeks(60);
        x.weeks(60);
        for (int i = 0; i < 10; i++) {
            x.pay(0, 9999);
        }
        x.pay(0, 9);
        due.is("TOOK", x.order(0, 6), 99_999);
        due.refused(x, "total(0, 99998)", x.total(0, 99_998), 5);
        due.granted(x, "total(0, 99999)", x.total(0, 99_999), 0);
        due.is("REST", x.order(0, 8), 0);
        due.is("OWED", x.order(0, 7), 0);
        due.granted(x, "total(0, 0)", x.total(0, 0), 99_999);
        x.weeks(1);
        x.pay(0, 1);
        due.is("TOOK", x.order(0, 6), 100_000);
        due.refused(x, "total(0, 99999) then", x.total(0, 99_999), 5);
        due.refused(x, "total(0, 100000) then", x.total(0, 100_000), 2);
        due.is("REST without end", x.order(0, 8), 999_999);
    }

    private static void at() {
        due.by("Promise 29, at these PAYERS (bits, all there may be, 1 .. 7): what it was at (as order() tells)");
        PayOrders x = made(";order a rank 1 keep 0 total 0 sum 10 at q;order b rank 1 keep 0 total 0 sum 10 at all");
        due.granted(x, "at(0, 1)", x.at(0, 1), 2);
        due.is("payer(0, 4)", x.payer(0, 4), 3);
        due.is("payer(1, 4)", x.payer(1, 4), 2);
        due.granted(x, "at(0, 7)", x.at(0, 7), 1);
        due.is("order(0, 5)", x.order(0, 5), 3);
        due.granted(x, "at(0, 4), none that there is", x.at(0, 4), 3);
        due.is("order(0, 5)", x.order(0, 5), 0);
        due.is("LIVE, at none", x.order(0, 9), 1);
        due.is("payer(0, 4)", x.payer(0, 4), 2);
        x.weeks(1);
        due.is("OWED, at none", x.order(0, 7), 10);
        due.is("pay(0, 50)", x.pay(0, 50), 40);
        due.is("first(0, 0)", x.first(0, 0), -2);
        due.refused(x, "enough(0, 1)", x.enough(0, 1), 5);
        due.granted(x, "at(0, 5)", x.at(0, 5), 0);
        due.is("order(0, 5)", x.order(0, 5), 1);
        due.granted(x, "at(0, 6)", x.at(0, 6), 1);
        due.is("order(0, 5)", x.order(0, 5), 2);
        due.refused(x, "at(0, 0)", x.at(0, 0), 2);
        due.refused(x, "at(0, 8)", x.at(0, 8), 2);
        due.is("order(0, 5) stays", x.order(0, 5), 2);
        due.granted(x, "at(1, 3)", x.at(1, 3), 3);
    }

    private static void atAll() {
        due.by("Promise 29, all there may be");
        PayOrders x = Due.made("desk keep 0 part 0 share even;payer p weeks 1;payer q weeks 1;payer r weeks 1"
                + ";order a rank 1 keep 0 total 0 sum 10 at all");
        int was = 7;
        for (int payers = 1; payers <= 7; payers++) {
            due.granted(x, "at(0, " + payers + ")", x.at(0, payers), was);
            due.is("order(0, 5)", x.order(0, 5), payers);
            for (int p = 0; p < 3; p++) {
                due.is("payer(" + p + ", 4)", x.payer(p, 4), payers >> p & 1);
            }
            was = payers;
        }
    }

    private static void back() {
        due.by("Promise 30, n of what an ORDER TOOK are given back: REST then (OWED stays)");
        PayOrders x = made(";order a rank 1 keep 0 total 100 sum 60 at p");
        due.refused(x, "back(0, 1), nothing TAKEN", x.back(0, 1), 5);
        x.weeks(1);
        x.pay(0, 50);
        due.is("OWED", x.order(0, 7), 10);
        due.refused(x, "back(0, 51)", x.back(0, 51), 5);
        due.refused(x, "back(0, 99999)", x.back(0, 99_999), 5);
        due.refused(x, "back(0, 100000), 2 ahead of 5", x.back(0, 100_000), 2);
        due.refused(x, "back(0, 0)", x.back(0, 0), 2);
        due.is("TOOK stays", x.order(0, 6), 50);
        due.granted(x, "back(0, 1)", x.back(0, 1), 51);
        due.is("OWED stays", x.order(0, 7), 10);
        due.is("TOOK", x.order(0, 6), 49);
        due.granted(x, "back(0, 49), all of it", x.back(0, 49), 100);
        due.is("TOOK", x.order(0, 6), 0);
        due.refused(x, "back(0, 1)", x.back(0, 1), 5);
        x.weeks(2);
        x.pay(0, 100);
        due.is("REST 0", x.order(0, 8), 0);
        due.granted(x, "back(0, 1)", x.back(0, 1), 1);
        due.is("LIVE again", x.order(0, 9), 1);
        due.is("OWED stays", x.order(0, 7), 0);
        due.is("a WEEK", x.weeks(1), 1);
    }

    private static void backOfAsMuchAsMayBe() {
        due.by("Promise 30, n (1 .. 99,999)");
        PayOrders x = made(";order a rank 1 keep 0 total 0 sum 999 at p");
        x.weeks(60);
        x.weeks(60);
        for (int i = 0; i < 10; i++) {
            x.pay(0, 9999);
        }
        x.pay(0, 10);
        due.is("TOOK", x.order(0, 6), 100_000);
        due.refused(x, "back(0, 100000)", x.back(0, 100_000), 2);
        due.granted(x, "back(0, 99999), without end", x.back(0, 99_999), 999_999);
        due.is("TOOK", x.order(0, 6), 1);
        due.refused(x, "back(0, 2)", x.back(0, 2), 5);
        due.granted(x, "back(0, 1)", x.back(0, 1), 999_999);
        due.is("OWED stays", x.order(0, 7), 120 * 999 - 100_000);
    }

    private static void forgive() {
        due.by("Promise 31, OWED of an ORDER is forgiven: how much it was");
        PayOrders x = made(";order a rank 1 keep 0 total 0 sum 999 at p;order b rank 2 keep 99 total 0 table t at p");
        due.granted(x, "forgive(0) of nothing", x.forgive(0), 0);
        x.weeks(60);
        due.granted(x, "forgive(0)", x.forgive(0), 60 * 999);
        due.is("OWED", x.order(0, 7), 0);
        due.is("REST stays", x.order(0, 8), 999_999);
        due.is("it wants nothing", x.pay(0, 99), 99);
        due.granted(x, "forgive(1)", x.forgive(1), 9);
        due.is("a table wants yet", x.would(0, 99, 1, 0), 9);
        x.weeks(1);
        x.stop(0, true);
        due.granted(x, "forgive(0) of a STOPPED one", x.forgive(0), 999);
        due.is("STOPPED yet", x.order(0, 10), 1);
    }
}
