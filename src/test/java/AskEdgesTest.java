import java.util.function.IntUnaryOperator;

/**
 * The bounds of what is asked of how it goes on, sentence by sentence of the document's third part, on both sides: how
 * many DAYS, of several which, what is answered if there is none.
 */
public final class AskEdgesTest {
    private static final int NONE = PoisonBook.NONE;
    private static final int MIN = Integer.MIN_VALUE;
    private static final int MAX = Integer.MAX_VALUE;

    private final Checks c = new Checks();

    private static PoisonBook told(String book, String... rules) {
        PoisonBook x = Checks.told(book);
        for (String rule : rules) {
            Checks.rule(x, rule);
        }
        x.force(rules.length > 0 ? 0 : NONE);
        return x;
    }

    private static void days(PoisonBook x, int n) {
        for (int i = 0; i < n; i++) {
            x.day();
        }
    }

    /** A number from the least to the most is answered as due; the ones beside, and the outermost, are refused. */
    private void range(String what, IntUnaryOperator ask, IntUnaryOperator due, int least, int most, int refused) {
        for (int n = least; n <= most; n += n > least + 99 && n < most - 99 ? 97 : 1) {
            c.due(what + ", " + n, ask.applyAsInt(n), due.applyAsInt(n));
        }
        for (int n : new int[] {least - 1, most + 1, least - 2, most + 2, MIN, MAX, MIN + 1, MAX - 1}) {
            c.due(what + ", refused: " + n, ask.applyAsInt(n), refused);
        }
    }

    /** "AHEAD n DAYS (0 to 100): TEMPER of a BUYER; GRAINS they have bought; SHELF". */
    private void ahead() {
        PoisonBook x = told("book 99 9 1;buyer 0 1 0", "buy 1");
        range("AHEAD GRAINS", n -> x.ahead(0, n, 1), n -> n, 0, 100, NONE);
        PoisonBook y = told("book 0 0 1;sky 0 5;buyer 0 1 0");
        range("AHEAD TEMPER", n -> y.ahead(0, n, 0), n -> Math.min(20, n), 0, 100, NONE);
        PoisonBook z = told("book 0 1 1;buyer 0 9 0");
        range("AHEAD SHELF", n -> z.ahead(0, n, 2), n -> n / 7, 0, 100, NONE);
        range("AHEAD what", what -> told("book 9 0 1;buyer 7 1 0").ahead(0, 0, what),
                what -> new int[] {7, 0, 9}[what], 0, 2, NONE);
        for (int buyer : new int[] {-1, 1, 6, MIN, MAX}) {
            c.due("buyer is not asked", z.ahead(buyer, 7, 2), 1);
            c.due("buyer is asked", z.ahead(buyer, 7, 0), NONE);
            c.due("buyer is asked", z.ahead(buyer, 7, 1), NONE);
        }
        c.due("without BUYERS", told("book 5 1 1").ahead(0, 100, 2), 19);
    }

    /** "BUYS of a BUYER: the first DAY, this one the first, of 200, on which they BUY". */
    private void buys() {
        for (int start = 0; start <= 2; start++) {
            for (int on : new int[] {start, start + 1, start + 198, start + 199}) {
                PoisonBook x = told("book 9 0 1;buyer 0 1 0", "buy 1 if day = " + on + " or day > " + (on + 5));
                days(x, start);
                c.due("from DAY " + start + " on, on DAY " + on, x.buys(0), on);
            }
            PoisonBook x = told("book 9 0 1;buyer 0 1 0", "buy 1 if day >= " + (start + 200));
            days(x, start);
            c.due("from DAY " + start + " on, on the 201st", x.buys(0), -2);
        }
        PoisonBook y = told("book 9 0 1;buyer 0 1 0;buyer 0 1 0;watch 0 0", "buy 1");
        c.due("who is met does not BUY", y.buys(0), -2);
        c.due("but the other one", y.buys(1), 0);
        range("BUYS who", b -> told("book 9 0 1;buyer 0 1 0;buyer 0 1 0", "buy 1 - buyer").buys(b),
                b -> b == 0 ? 0 : -2, 0, 1, NONE);
    }

    /** "EMPTY: the first DAY, this one the first, of 200, at whose begin SHELF is 0". */
    private void empty() {
        c.due("this one", told("book 0 0 1").empty(), 0);
        c.due("this one, though it is filled up", told("book 0 9 1").empty(), 0);
        c.due("1 is not 0", told("book 1 0 1").empty(), -2);
        for (int on : new int[] {0, 1, 100, 197, 198, 199, 200}) {
            PoisonBook x = told("book 1 0 1;buyer 0 1 0", "buy 1 if day = " + on);
            c.due("bought on DAY " + on, x.empty(), on <= 198 ? on + 1 : -2);
            x.day();
            c.due("from DAY 1 on", x.empty(), on == 0 ? 1 : on <= 199 ? on + 1 : -2);
        }
        PoisonBook y = told("book 1 1 1;buyer 0 1 0", "buy 1 if day = 6");
        c.due("filled up on the same DAY", y.empty(), -2);
        c.due("the first of several", told("book 1 1 1;buyer 0 1 0", "buy 1").empty(), 1);
    }

    private static int common(int one, int other) {
        return other == 0 ? one : common(other, one % other);
    }

    /** "TELLS for n DAYS (1 to 100): ... those on DAYS of STILL 5 or more, as a fraction in lowest terms". */
    private void tells() {
        PoisonBook x = told("book 99 9 2;sky 0 5;sky 1 4;buyer 0 1 0", "buy 1");
        range("TELLS above", n -> x.tells(n, 0), n -> (n + 1) / 2 / common((n + 1) / 2, n), 1, 100, NONE);
        range("TELLS below", n -> x.tells(n, 1), n -> n / common((n + 1) / 2, n), 1, 100, NONE);
        range("TELLS what", what -> x.tells(4, what), what -> what + 1, 0, 1, NONE);
        for (int still = 0; still <= 9; still++) {
            PoisonBook y = told("book 9 0 1;sky 0 " + still + ";buyer 0 1 0;buyer 0 1 0", "buy 1");
            c.due("STILL " + still + " above", y.tells(1, 0), still >= 5 ? 1 : 0);
            c.due("STILL " + still + " below, in lowest terms", y.tells(2, 1), 1);
        }
        PoisonBook z = told("book 9 0 1;sky 0 9;buyer 0 1 0;watch 0 0", "buy 1");
        c.due("0, if nobody does", z.tells(100, 0), 0);
        c.due("of 1", z.tells(100, 1), 1);
        z.watch(0, 0);
        z.sell(0);
        c.due("what was sold ahead of these is not of these", z.tells(1, 0), 0);
        PoisonBook w = told("book 99 0 2;sky 0 9;buyer 0 1 0;buyer 0 1 0;buyer 0 1 0", "buy 1 if clock = 0 or buyer = 0");
        c.due("times, not DAYS", w.tells(2, 0), 3);
        c.due("times, not DAYS", w.tells(2, 1), 4);
    }

    /** "GUARD for n DAYS (1 to 30): the fewest days of the ROUND ...: how many; of several sets the least as bits". */
    private void guard() {
        PoisonBook x = told("book 99 9 10;buyer 0 1 0", "buy 1");
        range("GUARD how many", n -> x.guard(n, 0), n -> Math.min(10, n), 1, 30, NONE);
        range("GUARD the set", n -> x.guard(n, 1), n -> (1 << Math.min(10, n)) - 1, 1, 30, NONE);
        range("GUARD what", what -> x.guard(3, what), what -> what == 0 ? 3 : 7, 0, 1, NONE);
        days(x, 7);
        c.due("DAYS 7 to 10", x.guard(4, 1), 0b1110000001);
        for (int day = 0; day < 30; day++) {
            PoisonBook y = told("book 99 9 10;buyer 0 1 0", "buy 1 if day = " + day);
            c.due("on DAY " + day, y.guard(day + 1, 1), 1 << day % 10);
            c.due("how many", y.guard(30, 0), 1);
            c.due("not yet", day == 0 ? 0 : y.guard(day, 0), 0);
        }
        c.due("nobody buys", told("book 99 9 10;buyer 0 1 0").guard(30, 1), 0);
        c.due("without BUYERS", told("book 99 9 10").guard(30, 0), 0);
    }

    /** "(in place of whom they meet on these; on others as it is), so that nobody BUYS in these DAYS". */
    private void guardAndPolice() {
        String two = "book 99 9 2;buyer 0 1 0;buyer 0 1 0";
        c.due("nobody is met", told(two, "buy 1").guard(30, 1), 3);
        c.due("one is met on day 0", told(two + ";watch 0 0", "buy 1").guard(30, 1), 3);
        c.due("both are met on day 0", told(two + ";watch 0 0;watch 0 1", "buy 1").guard(30, 1), 2);
        c.due("both are met on day 1", told(two + ";watch 1 0;watch 1 1", "buy 1").guard(30, 1), 1);
        c.due("both are met", told(two + ";watch 0 0;watch 0 1;watch 1 0;watch 1 1", "buy 1").guard(30, 1), 0);
        c.due("who is met waits", told("book 9 0 2;buyer 0 1 1", "buy 1").guard(30, 1), 1);
        c.due("by being met they come later", told("book 9 0 3;buyer 0 1 1", "buy 1").guard(30, 1), 7);
    }

    /** "BEST day to guard likewise, one, or none, for n DAYS (1 to 100) ...; of several none, then the least". */
    private void best() {
        PoisonBook x = told("book 99 9 10;buyer 0 1 0", "buy 1");
        range("BEST how many", n -> x.best(n, 1), n -> n - 1 - (n - 1) / 10, 1, 100, -2);
        range("BEST day", n -> x.best(n, 0), n -> 0, 1, 100, -2);
        range("BEST what", what -> x.best(1, what), what -> 0, 0, 1, -2);
        for (int day = 0; day < 100; day++) {
            PoisonBook y = told("book 99 9 10;buyer 0 1 0", "buy 1 if day = " + day);
            c.due("on DAY " + day, y.best(day + 1, 0), day % 10);
            c.due("how many", y.best(100, 1), 0);
            c.due("not yet", day == 0 ? NONE : y.best(day, 0), NONE);
        }
        PoisonBook z = told("book 99 0 10;buyer 0 1 0", "buy 1 if day = 3 or day = 5");
        c.due("of several the least", z.best(10, 0), 3);
        c.due("how many", z.best(10, 1), 1);
        PoisonBook w = told("book 2 0 3;buyer 0 1 0", "buy 1");
        c.due("of several none", w.best(100, 0), NONE);
        c.due("how many", w.best(100, 1), 2);
        c.due("without BUYERS", told("book 2 0 3").best(1, 0), NONE);
    }

    /** "LEAST TEMPER of a BUYER for n DAYS (1 to 60): the least, 0 to 20, in place of theirs now". */
    private void least() {
        PoisonBook x = told("book 9 0 1;sky 0 5;buyer 7 1 0", "buy 1 if temper = 20");
        range("LEAST", n -> x.least(0, n), n -> Math.max(0, 21 - n), 1, 60, NONE);
        for (int temper = 0; temper <= 20; temper++) {
            PoisonBook y = told("book 9 0 1;sky 0 3;buyer 7 1 0", "buy 1 if temper >= " + temper + " and day = 59");
            c.due("the least", y.least(0, 60), temper);
            c.due("by none, so soon", y.least(0, 59), -2);
        }
        c.due("by none", told("book 9 0 1;buyer 7 1 0", "buy 1 if temper > 20").least(0, 60), -2);
        c.due("0, though theirs is 20", told("book 9 0 1;buyer 20 1 0", "buy 1").least(0, 1), 0);
        c.due("20, though theirs is 0", told("book 9 0 1;buyer 0 1 0", "buy temper - 19").least(0, 1), 20);
        c.due("met: by none", told("book 9 0 1;buyer 7 1 0;watch 0 0", "buy 1").least(0, 60), -2);
        PoisonBook z = told("book 9 0 1;sky 0 9;buyer 0 1 0;buyer 0 1 0");
        range("LEAST who", b -> z.least(b, 1), b -> 3, 0, 1, NONE);
    }

    /** "SOOTHE for n DAYS (1 to 60): the BUYER whose TEMPER were best 0 now, or none ...; of several none". */
    private void soothe() {
        PoisonBook y = told("book 99 9 1;sky 0 4;buyer 3 1 0;buyer 9 2 0", "buy temper");
        c.due("of all", y.soothe(1, 0), 1);
        c.due("how many", y.soothe(1, 1), 1);
        for (int day = 0; day < 60; day++) {
            PoisonBook z = told("book 9 0 1;sky 0 4;buyer 1 2 0;buyer 1 2 0", "buy temper if day = " + day);
            c.due("on DAY " + day + ": of several the least", z.soothe(day + 1, 0), 0);
            c.due("on DAY " + day + ": how many", z.soothe(60, 1), 2);
            c.due("not yet: of several none", day == 0 ? NONE : z.soothe(day, 0), NONE);
        }
        PoisonBook x = told("book 9 0 1;sky 0 4;buyer 3 2 0", "buy 1 if temper < 0 or temper > 0");
        c.due("TEMPER 0, and not below", x.soothe(1, 0), 0);
        c.due("nothing is sold then", x.soothe(1, 1), 0);
        range("SOOTHE how many", n -> told("book 99 9 1;sky 0 4;buyer 0 1 0", "buy 1").soothe(n, 1), n -> n, 1, 60, -2);
        range("SOOTHE none", n -> told("book 99 9 1;sky 0 4;buyer 0 1 0", "buy 1").soothe(n, 0), n -> NONE, 1, 60, -2);
        range("SOOTHE what", what -> y.soothe(1, what), what -> 1, 0, 1, -2);
        c.due("without BUYERS", told("book 2 0 3").soothe(60, 0), NONE);
    }

    /** "PAGE of so many GRAINS (0 to 60): sets of BUYERS ...: how many; the least as bits; BUYERS that are in all". */
    private void page() {
        PoisonBook x = told("book 0 0 1" + ";buyer 0 9 0".repeat(6));
        int[] ways = {1, 6, 15, 20, 15, 6, 1};
        range("PAGE how many", n -> x.page(n, 0), n -> n % 9 == 0 && n <= 54 ? ways[n / 9] : 0, 0, 60, NONE);
        range("PAGE the least", n -> x.page(n, 1), n -> n % 9 == 0 && n <= 54 ? (1 << n / 9) - 1 : -2, 0, 60, NONE);
        range("PAGE in all", n -> x.page(n, 2), n -> n == 54 ? 63 : 0, 0, 60, NONE);
        range("PAGE what", what -> x.page(54, what), what -> what == 0 ? 1 : 63, 0, 2, NONE);
        PoisonBook y = told("book 0 0 1");
        range("PAGE without BUYERS", n -> y.page(n, 0), n -> n == 0 ? 1 : 0, 0, 60, NONE);
        c.due("nobody is the least", y.page(0, 1), 0);
        c.due("nobody is in all", y.page(0, 2), 0);
        c.due("there is none", y.page(1, 1), -2);
        PoisonBook z = told("book 0 0 1;buyer 0 1 0;buyer 0 2 0;buyer 0 3 0");
        c.due("one each: 1 and 2, or 3", z.page(3, 0), 2);
        c.due("not twice", z.page(7, 0), 0);
        PoisonBook w = told("book 0 0 1;buyer 0 1 0;buyer 0 1 0;buyer 0 2 0;buyer 0 5 0");
        c.due("1, 1 and 5, or 2 and 5", w.page(7, 0), 2);
        c.due("the least", w.page(7, 1), 0b1011);
        c.due("5 is in both", w.page(7, 2), 0b1000);
    }

    /** "FINES (0 to 9999) among BUYERS by GRAINS bought: each the part downwards; what is left, one each". */
    private void fines() {
        PoisonBook x = told("book 9 0 1;buyer 0 1 0;buyer 0 2 0;buyer 0 3 0");
        x.sell(0);
        x.sell(1);
        range("FINES of 1 of 3", n -> x.fines(n, 0), n -> n / 3 + (n % 3 == 2 ? 1 : 0), 0, 9999, NONE);
        PoisonBook y = told("book 9 0 1;buyer 0 1 0;buyer 0 2 0;buyer 0 3 0");
        y.sell(0);
        y.sell(1);
        range("FINES of 2 of 3", n -> y.fines(n, 1), n -> 2 * n / 3 + (n % 3 == 1 ? 1 : 0), 0, 9999, NONE);
        range("FINES who", b -> y.fines(3, b), b -> new int[] {1, 2, 0}[b], 0, 2, NONE);
        c.due("nobody bought", told("book 9 0 1;buyer 0 1 0").fines(9999, 0), 0);
        PoisonBook z = told("book 99 0 1" + ";buyer 0 5 0".repeat(6));
        for (int b = 0; b < 6; b++) {
            z.sell(b);
        }
        for (int much = 0; much <= 13; much++) {
            for (int b = 0; b < 6; b++) {
                c.due(much + " among six alike, " + b, z.fines(much, b), much / 6 + (b < much % 6 ? 1 : 0));
            }
        }
    }

    /** "to those whose part lost most by that, of several the least first": 5, 3, 3 and 1 of 12. */
    private void finesLeft() {
        PoisonBook x = told("book 99 0 1;buyer 0 3 0;buyer 0 5 0;buyer 0 1 0;buyer 0 3 0;buyer 0 9 0");
        for (int b = 0; b < 4; b++) {
            x.sell(b);
        }
        int[][] want = {{1, 0, 1, 0, 0, 0}, {2, 1, 1, 0, 0, 0}, {3, 1, 1, 0, 1, 0}, {10, 3, 4, 1, 2, 0},
            {11, 3, 4, 1, 3, 0}, {12, 3, 5, 1, 3, 0}, {13, 3, 6, 1, 3, 0}};
        for (int[] row : want) {
            for (int b = 0; b < 5; b++) {
                c.due(row[0] + " by 3, 5, 1, 3: " + b, x.fines(row[0], b), row[b + 1]);
            }
        }
    }

    /** "RESTS of two BUYERS for n DAYS (1 to 30): each has GRAINS 1, 3, 5, 7 or 9 from now on". */
    private void rests() {
        PoisonBook x = told("book 99 0 1;buyer 0 2 0;buyer 0 4 0;buyer 0 1 0", "buy 1 if day = 29 and buyer < 2");
        range("RESTS how many", n -> x.rests(0, 1, n, 0), n -> n < 30 ? 25 : 1, 1, 30, NONE);
        range("RESTS the first one", n -> x.rests(0, 1, n, 1), n -> n < 30 ? 1 : 9, 1, 30, NONE);
        range("RESTS the second one", n -> x.rests(0, 1, n, 2), n -> n < 30 ? 1 : 9, 1, 30, NONE);
        range("RESTS what", what -> x.rests(0, 1, 30, what), what -> what == 0 ? 1 : 9, 0, 2, NONE);
        range("RESTS one, unlike 2", b -> x.rests(b, 2, 1, 0), b -> 25, 0, 1, NONE);
        range("RESTS other, unlike 2", b -> x.rests(2, b, 1, 0), b -> 25, 0, 1, NONE);
        for (int b = 0; b < 3; b++) {
            c.due("unlike", x.rests(b, b, 1, 0), NONE);
        }
        for (int shelf = 0; shelf <= 20; shelf++) {
            PoisonBook y = told("book " + shelf + " 0 1;buyer 0 2 9;buyer 0 4 9", "buy 1");
            c.due("SHELF " + shelf + ", the first one", y.rests(0, 1, 1, 1), mostOdd(shelf));
            int left = shelf - (shelf == 0 ? 0 : mostOdd(shelf));
            c.due("SHELF " + shelf + ", the second one", y.rests(0, 1, 1, 2), mostOdd(left));
        }
    }

    /** The most of 1, 3, 5, 7, 9 that there is; 1, the first one, if all are alike. */
    private static int mostOdd(int shelf) {
        return shelf == 0 ? 1 : Math.min(9, (shelf + 1) / 2 * 2 - 1);
    }

    /** "each has the GRAINS that they buy in these, less 4 for each time they are MET". */
    private void restsMet() {
        PoisonBook x = told("book 99 0 2;buyer 0 1 0;buyer 0 1 9;watch 0 0", "buy 1 if buyer = 0 and grains < 5");
        c.due("3 less 4 is below 0: not to come is best", x.rests(0, 1, 2, 1), 5);
        c.due("three such, by five of the other", x.rests(0, 1, 2, 0), 15);
        PoisonBook y = told("book 99 0 2;buyer 0 1 0;buyer 0 1 9;watch 0 0", "buy 1 if buyer = 0 and grains < 6");
        c.due("5 less 4 is above 0", y.rests(0, 1, 2, 1), 5);
        c.due("one such, by five of the other", y.rests(0, 1, 2, 0), 5);
        PoisonBook z = told("book 99 0 1;buyer 0 1 0;buyer 0 1 0", "buy 1");
        z.sell(0);
        z.sell(1);
        c.due("who waits has nothing by any", z.rests(0, 1, 1, 0), 25);
        c.due("a DAY later they have", z.rests(0, 1, 2, 0), 1);
    }

    /** "RING: the first DAY, this one the first, of 60, ... as at the begin of a later one". */
    private void ring() {
        for (int until = 0; until <= 62; until++) {
            PoisonBook x = told("book 99 0 1;buyer 0 1 0", "buy 1 if day < " + until);
            c.due("SHELF falls for " + until + " DAYS", x.ring(0), until <= 59 ? until : -2);
            c.due("the next one is alike", x.ring(1), until <= 59 ? 1 : -2);
            x.day();
            c.due("a DAY later", x.ring(0), until <= 1 ? 1 : until <= 60 ? until : -2);
        }
        range("RING what", what -> told("book 9 0 1").ring(what), what -> what, 0, 1, NONE);
        c.due("without BUYERS SHELF alone", told("book 9 1 1").ring(1), 1);
    }

    /** "60 DAYS from now at most; how much later the first such is". */
    private void ringLater() {
        StringBuilder skies = new StringBuilder();
        for (int clock = 1; clock < 9; clock++) {
            skies.append(";sky ").append(clock).append(" 3");
        }
        PoisonBook x = told("book 99 1 10;sky 0 3" + skies + ";sky 9 5;buyer 6 1 0", "buy 1 if day = 0");
        c.due("TEMPER is 6 again after 60 DAYS", x.ring(0), 0);
        c.due("60 DAYS", x.ring(1), 60);
        PoisonBook y = told("book 99 2 10;sky 0 5" + skies + ";sky 9 3;buyer 6 1 0", "buy 1 if day = 1 or day = 2");
        c.due("TEMPER is 6 again after 61 DAYS", y.ahead(0, 61, 0), 6);
        c.due("SHELF, too", y.ahead(0, 61, 2), 99);
        c.due("too late: another one", y.ring(0), 3);
        c.due("the next one", y.ring(1), 1);
        PoisonBook z = told("book 9 0 4;sky 0 5;sky 1 5;sky 2 0;sky 3 0;buyer 0 9 0;buyer 3 9 0");
        c.due("all TEMPERS", z.ring(0), 0);
        c.due("after a ROUND", z.ring(1), 4);
    }

    /** TEMPERS 0 and 19, or 0 and 20, are not as 1 and 0 two weeks later, though SHELF is. */
    private void ringApart() {
        StringBuilder skies = new StringBuilder();
        for (int clock = 0; clock < 9; clock++) {
            skies.append(";sky ").append(clock).append(" 3");
        }
        for (int temper = 19; temper <= 20; temper++) {
            PoisonBook x = told("book 99 9 10" + skies + ";sky 9 5;buyer 0 1 0;buyer " + temper + " 1 0",
                    "buy 1 if buyer = 1 and [day < 4 or day = 10]");
            c.due("TEMPER 1", x.ahead(0, 14, 0), 1);
            c.due("TEMPER 0", x.ahead(1, 14, 0), 0);
            c.due("SHELF 99", x.ahead(1, 14, 2), 99);
            c.due("calm at last", x.ring(0), 4);
            c.due("the next one", x.ring(1), 1);
        }
    }

    /** "PEAK of n DAYS (1 to 100): the DAY of these on which most GRAINS are sold, of several the first". */
    private void peak() {
        PoisonBook x = told("book 99 9 1;buyer 0 1 0;buyer 0 2 0", "buy 1 if day = 50 or day = 99 and buyer = 1");
        range("PEAK how many", n -> x.peak(n, 1), n -> n <= 50 ? 0 : 3, 1, 100, NONE);
        range("PEAK the DAY", n -> x.peak(n, 0), n -> n <= 50 ? 0 : 50, 1, 100, NONE);
        range("PEAK what", what -> x.peak(51, what), what -> what == 0 ? 50 : 3, 0, 1, NONE);
        PoisonBook y = told("book 99 9 1;buyer 0 1 0;buyer 0 2 0", "buy 1 if day = 4 and buyer = 1; buy day - 98");
        c.due("99 DAYS", y.peak(99, 0), 4);
        c.due("100 DAYS", y.peak(100, 0), 99);
        PoisonBook z = told("book 99 9 1;buyer 0 1 0", "buy 1 if day > 2");
        c.due("of several the first", z.peak(100, 0), 3);
        days(z, 2);
        c.due("nothing sold: the first", z.peak(1, 0), 2);
        z.sell(0);
        c.due("by hand is not of these", z.peak(1, 1), 0);
    }

    public static void main(String[] args) {
        AskEdgesTest t = new AskEdgesTest();
        t.ahead();
        t.buys();
        t.empty();
        t.tells();
        t.guard();
        t.guardAndPolice();
        t.best();
        t.least();
        t.soothe();
        t.page();
        t.fines();
        t.finesLeft();
        t.rests();
        t.restsMet();
        t.ring();
        t.ringLater();
        t.ringApart();
        t.peak();
        t.c.close("AskEdgesTest");
    }
}
