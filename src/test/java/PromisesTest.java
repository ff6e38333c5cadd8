/** Each promise of the document by itself: ordinary inputs, the edges it names, and wrong inputs, reckoned by hand. */
public final class PromisesTest {
    /** On DAY 0 BUYERS 0 and 1 buy; then it goes round every three days: tempers 1 5 4, 0 4 3, 0 4 3. */
    private static final String SHOP =
            "book 20 5 3;sky 0 7;sky 1 2;sky 2 4;buyer 6 3 1;buyer 10 4 2;buyer 3 2 0;watch 1 1";
    private static final int NONE = PoisonBook.NONE;
    private static final int MIN = Integer.MIN_VALUE;
    private static final int MAX = Integer.MAX_VALUE;

    private final Checks c = new Checks();

    private static PoisonBook told(String book) {
        return Checks.told(book);
    }

    private static PoisonBook told(String book, String rule) {
        PoisonBook x = Checks.told(book);
        Checks.rule(x, rule);
        x.force(0);
        return x;
    }

    private static void days(PoisonBook x, int n) {
        for (int i = 0; i < n; i++) {
            x.day();
        }
    }

    private void counts(String where, PoisonBook x, int... want) {
        for (int what = 0; what < want.length; what++) {
            c.due(where + ": count(" + what + ")", x.count(what), want[what]);
        }
    }

    private void tempers(String where, PoisonBook x, int... want) {
        for (int b = 0; b < want.length; b++) {
            c.due(where + ": temper of " + b, x.buyer(b, 0), want[b]);
        }
    }

    private void promise1() {
        PoisonBook x = new PoisonBook();
        c.due("1: NONE", PoisonBook.NONE, -1);
        counts("1", x, 0, 0, 0, 0, NONE, 0, 0, 0, 0, 0, 0, 0, 0, 0, 0, 0);
        c.due("1: force", x.force(NONE), NONE);
        c.due("1: back", x.back(0), NONE);
    }

    private void promise2() {
        PoisonBook x = new PoisonBook();
        for (int i = 1; i <= 19; i++) {
            c.due("2: feed", x.feed(0x20202020, 0x20202020, 0x20202020, 0x20202020, 0x20202020), 20 * i);
        }
        c.due("2: cut to 381", x.end(379), 379);
        c.due("2: 399", x.feed(MIN, MAX, -1, 0, 1), 399);
        c.due("2: full", x.feed(0, 0, 0, 0, 0), NONE);
        c.due("2: nothing came", x.count(15), 399);
        x.end(380);
        c.due("2: 400", x.feed(0, 0, 0, 0, 0), 400);
        c.due("2: 401", x.feed(0, 0, 0, 0, 0), NONE);
        x.end(381);
        c.due("2: would be 401", x.feed(0, 0, 0, 0, 0), NONE);
        x.end(0);
        x.feed(0x626f6f6b, 0x20372030, 0x20310000, 0xff00ff00, 0x80818283);
        x.end(10);
        c.due("2: the highest byte first", x.book(), 0);
        c.due("2: shelf", x.count(7), 7);
    }

    private void promise3() {
        PoisonBook x = new PoisonBook();
        c.due("3: empty", x.end(0), 0);
        c.due("3: more than there are", x.end(1), NONE);
        x.feed(1, 2, 3, 4, 5);
        c.due("3: all", x.end(20), 20);
        c.due("3: one more", x.end(21), NONE);
        c.due("3: below 0", x.end(-1), NONE);
        c.due("3: outermost", x.end(MIN), NONE);
        c.due("3: outermost", x.end(MAX), NONE);
        c.due("3: nothing happened", x.count(15), 20);
        c.due("3: fewer", x.end(7), 7);
        c.due("3: fewer", x.count(15), 7);
        c.due("3: behind these", x.feed(0, 0, 0, 0, 0), 27);
    }

    private void promise4() {
        PoisonBook x = new PoisonBook();
        c.due("4: BUYERS", Checks.book(x, SHOP), 3);
        c.due("4: the TAPE is empty", x.count(15), 0);
        counts("4", x, 5, 3, 3, 0, NONE, 0, 0, 20, 7, 0, 0, 7, 0, 0, 0, 0);
        Checks.rule(x, "buy 1");
        x.force(0);
        x.seed(77);
        days(x, 4);
        x.note(3, 0, 1);
        c.due("4: a FAULT", Checks.book(x, "book 1 1 1;sky 1 0"), Checks.fault(15, 1));
        c.due("4: its TAPE is empty, too", x.count(15), 0);
        c.due("4: all stays, DAY", x.count(5), 4);
        c.due("4: all stays, NOTES", x.count(12), 1);
        c.due("4: all stays, ACTS", x.count(13), 4);
        c.due("4: all stays, BUYERS", x.count(2), 3);
        c.due("4: all stays, ROUND", x.count(1), 3);
        c.due("4: another one", Checks.book(x, "book 3 0 2;buyer 1 2 3;sky 1 4;sky 1 9;watch 1 0;watch 1 0"), 1);
        counts("4: another one", x, 0, 2, 1, 1, 0, 0, 0, 3, 0, 0, 0, 1, 0, 0, 77, 0);
        c.due("4: the last told", x.sky(1, 0), 9);
        c.due("4: 0 without", x.sky(0, 0), 0);
        c.due("4: told already", x.sky(1, 1), 1);
        c.due("4: not there any more", x.sky(2, 0), NONE);
        c.due("4: nothing to be UNDONE", x.undo(), NONE);
        c.due("4: outermost", Checks.book(x, " book 99 9 10 ; buyer 20 9 9 ; sky 9 9 "), 1);
        counts("4: outermost", x, 9, 10, 1, 1, 0, 0, 0, 99);
        c.due("4: no blanks", Checks.book(x, "book00000 0 00001;buyer0 1 0"), 1);
        c.due("4: an empty TAPE", x.book(), Checks.fault(0, 0));
    }

    private void promise5() {
        PoisonBook x = new PoisonBook();
        c.due("5: an empty TAPE", x.rule(), Checks.fault(0, 0));
        for (int i = 0; i < 6; i++) {
            c.due("5: a FAULT", Checks.rule(x, "buy"), Checks.fault(3, 0));
            c.due("5: its TAPE is empty", x.count(15), 0);
            c.due("5: its number", Checks.rule(x, "buy 1 if temper>3"), i);
            c.due("5: the TAPE is empty", x.count(15), 0);
            c.due("5: how many", x.count(3), i + 1);
        }
        c.due("5: there are 6", Checks.rule(x, "buy 1"), NONE);
        c.due("5: the TAPE stays", x.count(15), 5);
        c.due("5: there are 6, a FAULT or not", Checks.rule(x, "buy"), NONE);
        c.due("5: there are 6", x.count(3), 6);
    }

    private void promise6() {
        PoisonBook x = told("book 20 0 1;buyer 0 1 0");
        c.due("6: none such", x.force(0), -2);
        Checks.rule(x, "buy 0");
        Checks.rule(x, "buy 1");
        c.due("6: which was", x.force(1), NONE);
        c.due("6: IN FORCE", x.count(4), 1);
        c.due("6: they buy", x.day(), 1);
        c.due("6: which was", x.force(0), 1);
        c.due("6: they do not", x.day(), 0);
        c.due("6: none such", x.force(2), -2);
        c.due("6: none such", x.force(-2), -2);
        c.due("6: none such", x.force(MAX), -2);
        c.due("6: none such", x.force(MIN), -2);
        c.due("6: nothing happened", x.count(4), 0);
        c.due("6: none", x.force(NONE), 0);
        c.due("6: none", x.count(4), NONE);
    }

    private void promise7() {
        PoisonBook x = told(SHOP);
        int[][] want = {{6, 3, 1, 0, 0, 99}, {10, 4, 2, 0, 0, 99}, {3, 2, 0, 0, 0, 99}};
        for (int b = 0; b < 3; b++) {
            for (int what = 0; what < 6; what++) {
                c.due("7: buyer " + b + " " + what, x.buyer(b, what), want[b][what]);
            }
            c.due("7: what", x.buyer(b, 6), NONE);
            c.due("7: what", x.buyer(b, -1), NONE);
        }
        c.due("7: who", x.buyer(3, 0), NONE);
        c.due("7: who", x.buyer(-1, 0), NONE);
        c.due("7: who", x.buyer(MAX, MIN), NONE);
        c.due("7: without a BOOK", new PoisonBook().buyer(0, 0), NONE);
        x.day();
        c.due("7: bought", x.buyer(1, 3), 4);
        c.due("7: since", x.buyer(1, 5), 1);
        x.sell(1);
        c.due("7: bought by hand", x.buyer(1, 3), 8);
        c.due("7: since", x.buyer(1, 5), 0);
        c.due("7: never", x.buyer(2, 5), 99);
        days(x, 98);
        c.due("7: since", x.buyer(1, 5), 98);
        days(x, 1);
        c.due("7: since", x.buyer(1, 5), 99);
        days(x, 1);
        c.due("7: 99 or more", x.buyer(1, 5), 99);
        PoisonBook y = told("book 9 0 1;buyer 12 1 0;watch 0 0");
        days(y, 3);
        c.due("7: how often met", y.buyer(0, 4), 1);
        c.due("7: since they were met", y.buyer(0, 5), 3);
    }

    private void promise8() {
        PoisonBook x = told(SHOP + ";watch 2 0;watch 2 2");
        int[][] want = {{7, 0}, {2, 2}, {4, 5}};
        for (int clock = 0; clock < 3; clock++) {
            c.due("8: STILL", x.sky(clock, 0), want[clock][0]);
            c.due("8: police", x.sky(clock, 1), want[clock][1]);
            c.due("8: what", x.sky(clock, 2), NONE);
            c.due("8: what", x.sky(clock, -1), NONE);
        }
        c.due("8: clock", x.sky(3, 0), NONE);
        c.due("8: clock", x.sky(-1, 1), NONE);
        c.due("8: clock", x.sky(MIN, 0), NONE);
        c.due("8: without a BOOK", new PoisonBook().sky(0, 0), NONE);
    }

    private void promise9() {
        PoisonBook x = told(SHOP);
        c.due("9: DAY 0", x.day(), 3);
        tempers("9: DAY 1", x, 1, 5, 4);
        counts("9: DAY 1", x, 5, 3, 3, 0, NONE, 1, 1, 13, 2, 7, 0, 4, 0, 1, 0, 0);
        c.due("9: DAY 1", x.day(), 0);
        tempers("9: DAY 2", x, 0, 4, 3);
        c.due("9: DAY 2", x.day(), 0);
        tempers("9: DAY 3", x, 0, 4, 3);
        days(x, 3);
        c.due("9: SHELF ahead of filling", x.count(7), 13);
        c.due("9: DAY 6", x.day(), 0);
        c.due("9: SHELF is filled up", x.count(7), 18);
        c.due("9: without a BOOK", new PoisonBook().day(), NONE);
        calmAndRestless();
        shelfWithinDay();
        waitingAndMet();
        byRule();
        lastDay();
    }

    private void calmAndRestless() {
        PoisonBook x = told("book 0 0 3;sky 0 5;sky 1 2;sky 2 3;buyer 20 9 0;buyer 0 9 0;buyer 19 9 0");
        x.day();
        tempers("9: STILL 5, 20 at most", x, 20, 1, 20);
        x.day();
        tempers("9: STILL 2", x, 19, 0, 19);
        x.day();
        tempers("9: STILL 3", x, 19, 0, 19);
        PoisonBook y = told("book 0 0 2;sky 0 0;sky 1 4;buyer 0 1 0;buyer 1 1 0");
        y.day();
        tempers("9: 0 at least", y, 0, 0);
        y.day();
        tempers("9: STILL 4", y, 0, 0);
    }

    private void shelfWithinDay() {
        PoisonBook x = told("book 5 9 1;sky 0 9;buyer 20 3 0;buyer 20 3 0;buyer 20 2 0");
        c.due("9: by how all is then", x.day(), 5);
        c.due("9: SHELF is empty", x.count(7), 0);
        tempers("9: 6 less, 1 more", x, 15, 20, 15);
        PoisonBook y = told("book 95 9 1;buyer 0 1 0");
        days(y, 7);
        c.due("9: 99 at most", y.count(7), 99);
        PoisonBook z = told("book 9 0 1;sky 0 4;buyer 8 1 0;buyer 7 1 0");
        c.due("9: 12 or more", z.day(), 1);
        c.due("9: 6 less", z.buyer(0, 0), 2);
        PoisonBook w = told("book 9 0 1;sky 0 9;buyer 3 1 0");
        w.day();
        c.due("9: 0 at least, then 1 more", w.buyer(0, 0), 1);
    }

    private void waitingAndMet() {
        PoisonBook x = told("book 99 0 2;sky 0 3;sky 1 3;buyer 20 1 2;watch 1 0", "buy 1");
        c.due("9: DAY 0, they buy", x.day(), 1);
        c.due("9: 1 day has gone by", x.count(11), 0);
        c.due("9: DAY 1, they wait", x.day(), 0);
        c.due("9: DAY 2, they wait", x.day(), 0);
        c.due("9: 3 days have gone by", x.count(11), 1);
        c.due("9: DAY 3, they are met", x.day(), 0);
        c.due("9: met", x.buyer(0, 4), 1);
        c.due("9: met, and buy nothing", x.buyer(0, 3), 1);
        c.due("9: met, and no calmer", x.buyer(0, 0), 14);
        c.due("9: SHELF", x.count(7), 98);
        days(x, 2);
        c.due("9: they waited", x.buyer(0, 4), 1);
        c.due("9: DAY 6, they buy", x.day(), 1);
        c.due("9: sold", x.count(9), 2);
    }

    private void byRule() {
        PoisonBook x = told("book 99 0 2;sky 0 6;sky 1 3;buyer 4 2 0;buyer 5 3 0",
                "buy 0 if buyer = 0 and day = 0; buy temper - 9 if still < 5; buy next - clock if not sold > 0; buy 0 - 1");
        c.due("9: the first CLAUSE that holds", x.day(), 2);
        c.due("9: none above 0", x.day(), 0);
        PoisonBook y = told("book 99 0 1;buyer 20 1 0", "buy 5 if 1 = 2");
        c.due("9: 0 without", y.day(), 0);
    }

    private void lastDay() {
        PoisonBook x = told("book 99 9 7;buyer 12 1 0");
        for (int i = 0; i < 999; i++) {
            c.due("9: DAY " + i, x.day() == NONE ? 1 : 0, 0);
        }
        c.due("9: DAY 999", x.count(5), 999);
        c.due("9: 999 at most", x.day(), NONE);
        c.due("9: nothing happened", x.count(5), 999);
        c.due("9: asked days go on beyond", x.peak(5, 0), 999);
        Checks.rule(x, "buy day = 1");
        Checks.rule(x, "buy 1 if day = 1050");
        x.force(0);
        c.due("9: asked days go on beyond", x.buys(0), 1050);
    }

    private void promise10() {
        PoisonBook x = told(SHOP + ";watch 0 2");
        c.due("10: the police or not", x.sell(2), 18);
        c.due("10: TEMPER 0 at least", x.buyer(2, 0), 0);
        c.due("10: bought", x.buyer(2, 3), 2);
        c.due("10: not met", x.buyer(2, 4), 0);
        c.due("10: nor done waiting", x.sell(2), 16);
        c.due("10: TEMPER 6 less", x.sell(1), 12);
        c.due("10: TEMPER 6 less", x.buyer(1, 0), 4);
        c.due("10: sold", x.count(9), 8);
        c.due("10: they wait", x.count(11), 1);
        for (int shelf = 8; shelf >= 0; shelf -= 4) {
            c.due("10: SHELF", x.sell(1), shelf);
        }
        int acts = x.count(13);
        c.due("10: too few", x.sell(2), NONE);
        c.due("10: who", x.sell(3), NONE);
        c.due("10: who", x.sell(-1), NONE);
        c.due("10: without a BOOK", new PoisonBook().sell(0), NONE);
        c.due("10: nothing happened", x.count(13), acts);
        c.due("10: on this day they wait", x.day(), 0);
    }

    private void promise11() {
        PoisonBook x = told(SHOP);
        c.due("11: CALM", x.calm(0, 1), 5);
        c.due("11: too much", x.calm(0, 6), NONE);
        c.due("11: all", x.calm(0, 5), 0);
        c.due("11: none left", x.calm(0, 1), NONE);
        c.due("11: 0", x.calm(1, 0), NONE);
        c.due("11: below 0", x.calm(1, -1), NONE);
        c.due("11: outermost", x.calm(1, MIN), NONE);
        c.due("11: who", x.calm(3, 1), NONE);
        c.due("11: who", x.calm(-1, 1), NONE);
        c.due("11: ACTS", x.count(13), 2);
        c.due("11: TEMPER", x.buyer(0, 0), 0);
        PoisonBook y = told("book 1 1 1;buyer 20 1 1");
        c.due("11: 21", y.calm(0, 21), NONE);
        c.due("11: 20", y.calm(0, 20), 0);
    }

    private void promise12() {
        PoisonBook x = told(SHOP);
        c.due("12: met then", x.watch(0, 0), 1);
        c.due("12: bits", x.sky(0, 1), 1);
        c.due("12: met, not sold", x.day(), 2);
        c.due("12: met", x.count(10), 1);
        c.due("12: not met then", x.watch(1, 1), 0);
        c.due("12: bits", x.sky(1, 1), 0);
        c.due("12: clock", x.watch(3, 0), NONE);
        c.due("12: clock", x.watch(-1, 0), NONE);
        c.due("12: who", x.watch(0, 3), NONE);
        c.due("12: who", x.watch(0, -1), NONE);
        c.due("12: ACTS", x.count(13), 3);
        c.due("12: without a BOOK", new PoisonBook().watch(0, 0), NONE);
    }

    private void promise13() {
        PoisonBook x = told(SHOP);
        c.due("13: which it was", x.change(0, 9), 7);
        c.due("13: as it is", x.change(0, 9), NONE);
        c.due("13: which it was", x.change(0, 0), 9);
        c.due("13: STILL", x.count(8), 0);
        c.due("13: 10", x.change(1, 10), NONE);
        c.due("13: -1", x.change(1, -1), NONE);
        c.due("13: clock", x.change(3, 1), NONE);
        c.due("13: clock", x.change(-1, 1), NONE);
        c.due("13: ACTS", x.count(13), 2);
        c.due("13: nobody comes", x.day(), 0);
        c.due("13: without a BOOK", new PoisonBook().change(0, 1), NONE);
    }

    private void promise14() {
        PoisonBook x = told(SHOP);
        c.due("14: none", x.undo(), NONE);
        x.day();
        x.sell(2);
        x.calm(1, 2);
        x.watch(2, 2);
        x.change(2, 8);
        x.seed(5);
        x.note(1, 1, 1);
        c.due("14: SKY", x.undo(), 4);
        c.due("14: SKY", x.sky(2, 0), 4);
        c.due("14: WATCH", x.undo(), 3);
        c.due("14: WATCH", x.sky(2, 1), 0);
        c.due("14: CALM", x.undo(), 2);
        c.due("14: CALM", x.buyer(1, 0), 5);
        c.due("14: SELL", x.undo(), 1);
        c.due("14: SELL", x.count(7), 13);
        c.due("14: SELL", x.buyer(2, 5), 99);
        c.due("14: a DAY", x.undo(), 0);
        tempers("14: a DAY", x, 6, 10, 3);
        counts("14: a DAY", x, 5, 3, 3, 0, NONE, 0, 0, 20, 7, 0, 0, 7, 1, 0, 5, 0);
        c.due("14: since", x.buyer(0, 5), 99);
        c.due("14: none", x.undo(), NONE);
        days(x, 25);
        c.due("14: the last 20", x.count(13), 20);
        for (int left = 19; left >= 0; left--) {
            c.due("14: the last 20", x.undo(), left);
        }
        c.due("14: none more", x.undo(), NONE);
        c.due("14: DAY", x.count(5), 5);
    }

    private void promise15() {
        PoisonBook x = told(SHOP);
        c.due("15: 0 DAYS", x.ahead(0, 0, 0), 6);
        c.due("15: TEMPER", x.ahead(0, 1, 0), 1);
        c.due("15: TEMPER", x.ahead(1, 100, 0), 5);
        c.due("15: GRAINS", x.ahead(1, 1, 1), 4);
        c.due("15: GRAINS", x.ahead(2, 100, 1), 0);
        c.due("15: SHELF", x.ahead(0, 7, 2), 18);
        c.due("15: SHELF, nobody asked", x.ahead(MIN, 1, 2), 13);
        c.due("15: n", x.ahead(0, 101, 0), NONE);
        c.due("15: n", x.ahead(0, -1, 2), NONE);
        c.due("15: who", x.ahead(3, 1, 0), NONE);
        c.due("15: who", x.ahead(-1, 1, 1), NONE);
        c.due("15: what", x.ahead(0, 1, 3), NONE);
        c.due("15: what", x.ahead(0, 1, -1), NONE);
        c.due("15: without a BOOK", new PoisonBook().ahead(0, 1, 2), NONE);
        c.due("15: nothing changes", x.count(5), 0);
        x.day();
        c.due("15: GRAINS so far", x.ahead(0, 0, 1), 3);
    }

    private void promise16() {
        PoisonBook x = told(SHOP);
        c.due("16: this one", x.buys(0), 0);
        c.due("16: never", x.buys(2), -2);
        c.due("16: who", x.buys(3), NONE);
        c.due("16: who", x.buys(-1), NONE);
        c.due("16: without a BOOK", new PoisonBook().buys(0), NONE);
        PoisonBook y = told("book 1 0 1;buyer 0 1 0", "buy 1 if day = 202");
        c.due("16: on the 203rd", y.buys(0), -2);
        days(y, 2);
        c.due("16: on the 201st", y.buys(0), -2);
        days(y, 1);
        c.due("16: on the 200th", y.buys(0), 202);
        c.due("16: nothing changes", y.count(5), 3);
        y.watch(0, 0);
        c.due("16: met is not bought", y.buys(0), -2);
    }

    private void promise17() {
        c.due("17: without a BOOK", new PoisonBook().empty(), NONE);
        c.due("17: this one", told("book 0 1 1").empty(), 0);
        c.due("17: at none", told("book 1 0 1").empty(), -2);
        PoisonBook x = told("book 4 1 1;buyer 0 2 0", "buy 1 if day >= 200 or day = 3");
        c.due("17: on the 201st", x.empty(), -2);
        PoisonBook y = told("book 4 0 1;buyer 0 2 0", "buy 1");
        c.due("17: at whose begin", y.empty(), 2);
        y.day();
        c.due("17: DAYS of all", y.empty(), 2);
        PoisonBook z = told("book 2 0 1;buyer 0 2 0", "buy 1 if day = 199");
        c.due("17: at the begin of the 201st", z.empty(), -2);
        z.day();
        c.due("17: at the begin of the 200th", z.empty(), 200);
    }

    private void promise18() {
        PoisonBook x = told("book 99 0 3;sky 0 5;sky 1 4;sky 2 9;buyer 0 1 0;buyer 0 1 0;watch 2 1", "buy 1");
        c.due("18: above", x.tells(1, 0), 1);
        c.due("18: below", x.tells(1, 1), 1);
        c.due("18: above", x.tells(2, 0), 1);
        c.due("18: below", x.tells(2, 1), 2);
        c.due("18: above", x.tells(3, 0), 3);
        c.due("18: below", x.tells(3, 1), 5);
        c.due("18: nothing changes", x.count(9), 0);
        x.change(0, 4);
        x.change(2, 4);
        c.due("18: none of four", x.tells(2, 0), 0);
        c.due("18: none of four", x.tells(2, 1), 1);
        x.force(NONE);
        c.due("18: nobody", x.tells(100, 0), 0);
        c.due("18: nobody", x.tells(100, 1), 1);
        c.due("18: n", x.tells(0, 0), NONE);
        c.due("18: n", x.tells(101, 0), NONE);
        c.due("18: what", x.tells(1, 2), NONE);
        c.due("18: what", x.tells(1, -1), NONE);
        c.due("18: without a BOOK", new PoisonBook().tells(1, 0), NONE);
    }

    private void promise19() {
        PoisonBook x = told(SHOP);
        c.due("19: how many", x.guard(3, 0), 1);
        c.due("19: the set", x.guard(3, 1), 1);
        c.due("19: nothing changes", x.sky(0, 1), 0);
        PoisonBook y = told("book 99 0 4;buyer 0 1 0;buyer 0 1 0;watch 1 0", "buy clock % 2");
        c.due("19: only odd days", y.guard(30, 0), 2);
        c.due("19: only odd days", y.guard(30, 1), 10);
        c.due("19: none comes", y.guard(1, 0), 0);
        c.due("19: none comes", y.guard(1, 1), 0);
        c.due("19: one comes", y.guard(3, 1), 2);
        days(y, 2);
        c.due("19: one comes", y.guard(2, 1), 8);
        PoisonBook z = told("book 99 0 3;buyer 0 1 2", "buy 1 if met = 0 and day > 0 or day = 2");
        c.due("19: of several the least", z.guard(3, 0), 1);
        c.due("19: of several the least", z.guard(3, 1), 2);
        PoisonBook w = told("book 99 0 10;buyer 0 1 0", "buy 1");
        c.due("19: all days", w.guard(30, 0), 10);
        c.due("19: all days", w.guard(30, 1), 1023);
        c.due("19: n", w.guard(0, 0), NONE);
        c.due("19: n", w.guard(31, 0), NONE);
        c.due("19: what", w.guard(1, 2), NONE);
        c.due("19: what", w.guard(1, -1), NONE);
        c.due("19: without a BOOK", new PoisonBook().guard(1, 0), NONE);
        c.due("19: without BUYERS", told("book 1 1 1").guard(30, 0), 0);
    }

    private void promise20() {
        PoisonBook x = told(SHOP);
        c.due("20: the day", x.best(3, 0), 0);
        c.due("20: how many", x.best(3, 1), 0);
        PoisonBook y = told("book 99 0 3;buyer 0 3 0;buyer 0 5 0", "buy 1 if clock > 0");
        c.due("20: of several the least", y.best(3, 0), 1);
        c.due("20: how many", y.best(3, 1), 8);
        c.due("20: of several none", y.best(1, 0), NONE);
        c.due("20: of several none", y.best(1, 1), 0);
        c.due("20: nothing changes", y.sky(1, 1), 0);
        c.due("20: n", y.best(0, 0), -2);
        c.due("20: n", y.best(101, 0), -2);
        c.due("20: all is sold so or so", y.best(100, 1), 99);
        c.due("20: all is sold so or so", y.best(100, 0), NONE);
        c.due("20: what", y.best(1, 2), -2);
        c.due("20: what", y.best(1, -1), -2);
        c.due("20: without a BOOK", new PoisonBook().best(1, 0), -2);
    }

    private void promise21() {
        PoisonBook x = told(SHOP);
        c.due("21: on this DAY", x.least(0, 1), 5);
        c.due("21: on this DAY", x.least(2, 1), 5);
        c.due("21: nothing changes", x.buyer(0, 0), 6);
        PoisonBook y = told("book 99 0 1;sky 0 5;buyer 0 1 0;buyer 0 1 0", "buy 1 if temper = 20; buy 1 if buyer = 1");
        c.due("21: it grows", y.least(0, 3), 18);
        c.due("21: it grows", y.least(0, 21), 0);
        c.due("21: one", y.least(0, 20), 1);
        c.due("21: 20", y.least(0, 1), 20);
        c.due("21: 0", y.least(1, 1), 0);
        y.watch(0, 0);
        c.due("21: by none", y.least(0, 60), -2);
        c.due("21: n", y.least(0, 0), NONE);
        c.due("21: n", y.least(0, 61), NONE);
        c.due("21: who", y.least(2, 1), NONE);
        c.due("21: who", y.least(-1, 1), NONE);
        c.due("21: without a BOOK", new PoisonBook().least(0, 1), NONE);
    }

    private void promise22() {
        PoisonBook x = told(SHOP);
        c.due("22: who", x.soothe(1, 0), 1);
        c.due("22: how many", x.soothe(1, 1), 3);
        c.due("22: nothing changes", x.buyer(1, 0), 10);
        PoisonBook y = told("book 99 0 1;sky 0 4;buyer 8 2 9;buyer 8 2 9;buyer 7 1 9");
        c.due("22: of several the least", y.soothe(1, 0), 0);
        c.due("22: how many", y.soothe(1, 1), 2);
        y.calm(0, 1);
        y.calm(1, 1);
        c.due("22: of several none", y.soothe(60, 0), NONE);
        c.due("22: how many", y.soothe(60, 1), 0);
        c.due("22: n", y.soothe(0, 0), -2);
        c.due("22: n", y.soothe(61, 0), -2);
        c.due("22: what", y.soothe(1, 2), -2);
        c.due("22: what", y.soothe(1, -1), -2);
        c.due("22: without a BOOK", new PoisonBook().soothe(1, 0), -2);
    }

    private void promise23() {
        PoisonBook x = told("book 1 1 1;buyer 0 3 0;buyer 0 3 0;buyer 0 6 0;buyer 0 1 0");
        c.due("23: how many", x.page(6, 0), 2);
        c.due("23: the least", x.page(6, 1), 3);
        c.due("23: in all", x.page(6, 2), 0);
        c.due("23: how many", x.page(10, 0), 2);
        c.due("23: the least", x.page(10, 1), 13);
        c.due("23: in all", x.page(10, 2), 12);
        c.due("23: 0", x.page(0, 0), 1);
        c.due("23: 0", x.page(0, 1), 0);
        c.due("23: 0", x.page(0, 2), 0);
        c.due("23: there is none", x.page(60, 0), 0);
        c.due("23: there is none", x.page(60, 1), -2);
        c.due("23: there is none", x.page(60, 2), 0);
        c.due("23: all", x.page(13, 1), 15);
        c.due("23: all", x.page(13, 2), 15);
        c.due("23: grains", x.page(61, 0), NONE);
        c.due("23: grains", x.page(-1, 0), NONE);
        c.due("23: what", x.page(1, 3), NONE);
        c.due("23: what", x.page(1, -1), NONE);
        c.due("23: without a BOOK", new PoisonBook().page(0, 0), NONE);
        c.due("23: without BUYERS", told("book 1 1 1").page(0, 0), 1);
        c.due("23: without BUYERS", told("book 1 1 1").page(1, 2), 0);
    }

    private void promise24() {
        PoisonBook x = told(SHOP);
        c.due("24: nobody bought", x.fines(9999, 0), 0);
        x.day();
        c.due("24: 30/7", x.fines(10, 0), 4);
        c.due("24: 40/7 and what is left", x.fines(10, 1), 6);
        c.due("24: nothing bought", x.fines(10, 2), 0);
        c.due("24: 0", x.fines(0, 0), 0);
        c.due("24: 29997/7", x.fines(9999, 0), 4285);
        c.due("24: 39996/7", x.fines(9999, 1), 5714);
        PoisonBook y = told("book 99 1 1;buyer 0 3 0;buyer 0 3 0;buyer 0 3 0");
        y.sell(0);
        y.sell(1);
        y.sell(2);
        c.due("24: the least first", y.fines(5, 0), 2);
        c.due("24: the least first", y.fines(5, 1), 2);
        c.due("24: the least first", y.fines(5, 2), 1);
        c.due("24: one left", y.fines(4, 1), 1);
        PoisonBook z = told("book 1 1 1;buyer 0 1 0;buyer 0 1 0");
        z.sell(1);
        c.due("24: one grain", z.fines(7, 1), 7);
        c.due("24: one grain", z.fines(7, 0), 0);
        c.due("24: much", y.fines(10000, 0), NONE);
        c.due("24: much", y.fines(-1, 0), NONE);
        c.due("24: who", y.fines(1, 3), NONE);
        c.due("24: who", y.fines(1, -1), NONE);
        c.due("24: without a BOOK", new PoisonBook().fines(1, 0), NONE);
    }

    private void promise25() {
        PoisonBook x = told("book 8 0 1;buyer 0 2 9;buyer 0 2 9;buyer 0 9 0", "buy 1");
        c.due("25: how many", x.rests(0, 1, 1, 0), 1);
        c.due("25: the one", x.rests(0, 1, 1, 1), 7);
        c.due("25: the other", x.rests(0, 1, 1, 2), 1);
        c.due("25: the other way about", x.rests(1, 0, 1, 1), 1);
        c.due("25: the other way about", x.rests(1, 0, 1, 2), 7);
        c.due("25: nothing changes", x.buyer(0, 1), 2);
        x.watch(0, 0);
        c.due("25: met, 4 less", x.rests(0, 1, 1, 1), 9);
        c.due("25: met, 4 less", x.rests(0, 1, 1, 2), 7);
        x.watch(0, 1);
        c.due("25: neither would come", x.rests(0, 1, 1, 0), 1);
        c.due("25: neither would come", x.rests(0, 1, 1, 2), 9);
        x.force(NONE);
        c.due("25: all alike", x.rests(0, 1, 30, 0), 25);
        c.due("25: all alike", x.rests(0, 1, 30, 1), 1);
        c.due("25: alike", x.rests(0, 0, 1, 0), NONE);
        c.due("25: who", x.rests(0, 3, 1, 0), NONE);
        c.due("25: who", x.rests(-1, 0, 1, 0), NONE);
        c.due("25: n", x.rests(0, 1, 0, 0), NONE);
        c.due("25: n", x.rests(0, 1, 31, 0), NONE);
        c.due("25: what", x.rests(0, 1, 1, 3), NONE);
        c.due("25: what", x.rests(0, 1, 1, -1), NONE);
        c.due("25: without a BOOK", new PoisonBook().rests(0, 1, 1, 0), NONE);
        noRest();
    }

    /** BUYER 0 would have unlike GRAINS, BUYER 1 like ones. */
    private void noRest() {
        PoisonBook x = told("book 99 0 1;buyer 0 1 0;buyer 0 1 0",
                "buy 1 if buyer = 0 and day = 1 and [ sold = 1 and grains = 3 or sold = 3 and grains = 1 ];"
                + "buy 1 if buyer = 1 and day = 0 and grains < 4;"
                + "buy 1 if buyer = 1 and day > 1 and grains = 1 and bought = sold");
        c.due("25: there is none", x.rests(0, 1, 10, 0), 0);
        c.due("25: there is none", x.rests(0, 1, 10, 1), -2);
        c.due("25: there is none", x.rests(0, 1, 10, 2), -2);
        PoisonBook y = told("book 3 0 1;buyer 0 1 9;buyer 0 1 9;watch 0 1",
                "buy 1 if buyer = 0 and grains < 4; buy 1 if buyer = 1 and shelf = 2; buy 0");
        c.due("25: 0 buys 3, 1 then can't come", y.rests(0, 1, 1, 1), 3);
        c.due("25: all that 1 chooses", y.rests(0, 1, 1, 0), 5);
    }

    private void promise26() {
        PoisonBook x = told(SHOP);
        c.due("26: the DAY", x.ring(0), 1);
        c.due("26: how much later", x.ring(1), 3);
        x.day();
        c.due("26: DAYS of all", x.ring(0), 1);
        x.day();
        c.due("26: this one", x.ring(0), 2);
        c.due("26: the next one", x.ring(1), 1);
        c.due("26: nothing changes", x.count(5), 2);
        c.due("26: what", x.ring(2), NONE);
        c.due("26: what", x.ring(-1), NONE);
        c.due("26: without a BOOK", new PoisonBook().ring(0), NONE);
        PoisonBook y = told("book 99 0 1;buyer 0 1 0", "buy 1");
        c.due("26: there is none", y.ring(0), -2);
        c.due("26: there is none", y.ring(1), -2);
        PoisonBook w = told("book 99 0 1;buyer 0 1 0", "buy 1 if day < 59");
        c.due("26: the last one", w.ring(0), 59);
        c.due("26: the last one", w.ring(1), 1);
        PoisonBook v = told("book 99 0 1;buyer 0 1 0", "buy 1 if day < 60");
        c.due("26: one too late", v.ring(0), -2);
    }

    private void promise27() {
        PoisonBook x = told(SHOP);
        c.due("27: the DAY", x.peak(10, 0), 0);
        c.due("27: how many", x.peak(10, 1), 7);
        x.day();
        c.due("27: none, the first", x.peak(100, 0), 1);
        c.due("27: none", x.peak(100, 1), 0);
        PoisonBook y = told("book 99 0 1;buyer 0 2 0;buyer 0 3 0", "buy 1 if buyer = 0 and day > 0; buy day > 2;");
        c.due("27: no RULE", y.count(4), NONE);
        Checks.rule(y, "buy 1 if buyer = 0 and day > 0; buy 1 if day > 2");
        y.force(0);
        c.due("27: of several the first", y.peak(3, 0), 1);
        c.due("27: how many", y.peak(3, 1), 2);
        c.due("27: most", y.peak(9, 0), 3);
        c.due("27: most", y.peak(9, 1), 5);
        c.due("27: n", y.peak(0, 0), NONE);
        c.due("27: n", y.peak(101, 0), NONE);
        c.due("27: what", y.peak(1, 2), NONE);
        c.due("27: what", y.peak(1, -1), NONE);
        c.due("27: without a BOOK", new PoisonBook().peak(1, 0), NONE);
    }

    private void promise28() {
        PoisonBook x = new PoisonBook();
        c.due("28: without a BOOK", x.note(0, 0, 0), -2);
        c.due("28: none then", x.note(NONE, 0, 0), 0);
        Checks.book(x, SHOP);
        c.due("28: n", x.note(61, 0, 0), -2);
        c.due("28: n", x.note(-2, 0, 0), -2);
        c.due("28: who", x.note(0, 3, 0), -2);
        c.due("28: who", x.note(0, -1, 0), -2);
        c.due("28: bought", x.note(0, 0, 2), -2);
        c.due("28: bought", x.note(0, 0, -1), -2);
        for (int i = 1; i <= 10; i++) {
            c.due("28: how many", x.note(6 * i, i % 3, i % 2), i);
        }
        c.due("28: there are 10", x.note(0, 0, 0), -2);
        c.due("28: there are 10", x.count(12), 10);
        c.due("28: no ACT", x.count(13), 0);
        c.due("28: none then", x.note(NONE, MAX, MIN), 0);
        c.due("28: none", x.count(12), 0);
        c.due("28: one", x.note(60, 2, 1), 1);
    }

    /** None buys on DAY 1 first; RULE 0 always, RULE 1 never, RULE 2 on odd DAYS. */
    private static PoisonBook withRules() {
        PoisonBook x = told("book 99 0 1;sky 0 5;buyer 6 1 0");
        Checks.rule(x, "buy 1");
        Checks.rule(x, "buy 0");
        Checks.rule(x, "buy day % 2");
        return x;
    }

    private void promise29() {
        PoisonBook x = withRules();
        c.due("29: all", x.ruled(0), 4);
        c.due("29: none ahead of 0", x.ruled(1), NONE);
        x.note(0, 0, 0);
        c.due("29: but RULE 0", x.ruled(0), 3);
        x.note(1, 0, 1);
        c.due("29: none and RULE 2", x.ruled(0), 2);
        c.due("29: none", x.ruled(1), NONE);
        x.calm(0, 6);
        x.change(0, 0);
        x.watch(0, 0);
        x.day();
        x.force(1);
        c.due("29: all as the text told it", x.ruled(0), 2);
        x.note(3, 0, 1);
        c.due("29: RULE 2", x.ruled(0), 1);
        c.due("29: RULE 2", x.ruled(1), 2);
        x.note(60, 0, 0);
        c.due("29: RULE 2", x.ruled(1), 2);
        x.note(4, 0, 1);
        c.due("29: there is none such", x.ruled(0), 0);
        c.due("29: there is none such", x.ruled(1), -2);
        c.due("29: what", x.ruled(2), -3);
        c.due("29: what", x.ruled(-1), -3);
        c.due("29: without a BOOK", new PoisonBook().ruled(0), -3);
    }

    private void promise30() {
        PoisonBook x = withRules();
        c.due("30: the DAY", x.look(0), 3);
        c.due("30: how many", x.look(1), 2);
        x.note(3, 0, 1);
        c.due("30: RULES 0 and 2", x.look(0), 0);
        c.due("30: RULES 0 and 2", x.look(1), 1);
        x.note(0, 0, 0);
        c.due("30: RULE 2 alone", x.look(0), 0);
        c.due("30: RULE 2 alone", x.look(1), 1);
        x.note(2, 0, 1);
        c.due("30: no RULE is so", x.look(0), -2);
        c.due("30: no RULE is so", x.look(1), -2);
        c.due("30: what", x.look(2), NONE);
        c.due("30: what", x.look(-1), NONE);
        c.due("30: without a BOOK", new PoisonBook().look(0), NONE);
        PoisonBook y = told("book 99 0 1;buyer 0 1 0");
        Checks.rule(y, "buy 1 if day = 60");
        c.due("30: the last DAY", y.look(0), 60);
        c.due("30: the last DAY", y.look(1), 1);
        PoisonBook z = told("book 99 0 1;buyer 0 1 0");
        Checks.rule(z, "buy 1 if day = 61");
        c.due("30: never, the least", z.look(0), 0);
        c.due("30: never, both", z.look(1), 2);
    }

    private void promise31() {
        PoisonBook x = new PoisonBook();
        c.due("31: 0 at first", x.seed(7), 0);
        c.due("31: what it was", x.seed(MAX), 7);
        c.due("31: below 0", x.seed(-1), NONE);
        c.due("31: below 0", x.seed(MIN), NONE);
        c.due("31: nothing happened", x.count(14), MAX);
        c.due("31: what it was", x.seed(0), MAX);
    }

    /** From 0 on x becomes 12345, 1406932606, 654583775, 1449466924: the DRAWS are 0, 21468, 9988, 22117. */
    private void promise32() {
        PoisonBook x = told("book 99 0 1;buyer 6 1 0");
        c.due("32: STILL 8", x.summers(1, 1, 50, 0), 1);
        c.due("32: SHELF", x.summers(1, 1, 50, 1), 98);
        c.due("32: never", x.summers(1, 1, 0, 0), 0);
        c.due("32: 0 is below 1", x.summers(1, 1, 1, 0), 1);
        c.due("32: the second one as it is told", x.summers(2, 1, 50, 0), 1);
        c.due("32: all together", x.summers(2, 1, 50, 1), 197);
        c.due("32: 88 is not below 88", x.summers(2, 1, 88, 0), 1);
        c.due("32: 88 is below 89, STILL 7", x.summers(2, 1, 89, 0), 2);
        c.due("32: x as it was", x.count(14), 0);
        c.due("32: nothing stays", x.sky(0, 0), 0);
        c.due("32: nothing stays", x.count(9), 0);
        PoisonBook y = told("book 99 0 1;buyer 9 1 0", "buy 1 if still = 8 and day = 1; buy 1 if next = 8 and day = 0");
        c.due("32: from then on", y.summers(1, 2, 50, 0), 2);
        PoisonBook z = told("book 99 0 2;buyer 9 1 0", "buy 1 if still = 8");
        c.due("32: of its day of the ROUND", z.summers(1, 2, 50, 0), 1);
        z.seed(12345);
        c.due("32: by x", z.summers(1, 1, 68, 0), 0);
        c.due("32: by x", z.summers(1, 1, 69, 0), 1);
        c.due("32: m", x.summers(0, 1, 1, 0), NONE);
        c.due("32: m", x.summers(11, 1, 1, 0), NONE);
        c.due("32: n", x.summers(1, 0, 1, 0), NONE);
        c.due("32: n", x.summers(1, 61, 1, 0), NONE);
        c.due("32: p", x.summers(1, 1, -1, 0), NONE);
        c.due("32: p", x.summers(1, 1, 101, 0), NONE);
        c.due("32: what", x.summers(1, 1, 1, 2), NONE);
        c.due("32: what", x.summers(1, 1, 1, -1), NONE);
        c.due("32: without a BOOK", new PoisonBook().summers(1, 1, 1, 0), NONE);
    }

    private void promise33() {
        PoisonBook x = told("book 9 8 4;sky 1 6;sky 3 2;buyer 12 9 0;buyer 5 2 1;watch 0 0", "buy 1");
        x.day();
        x.note(0, 0, 0);
        x.seed(9);
        x.feed(0, 0, 0, 0, 0);
        counts("33", x, 8, 4, 2, 1, 0, 1, 1, 7, 6, 2, 1, 0, 1, 1, 9, 20);
        days(x, 2);
        counts("33: DAY 3", x, 8, 4, 2, 1, 0, 3, 3, 5, 2, 4, 1, 0);
        x.day();
        c.due("33: who CAN buy, too few for 0", x.count(11), 2);
        c.due("33: others", x.count(16), NONE);
        c.due("33: others", x.count(-1), NONE);
        c.due("33: others", x.count(MIN), NONE);
        c.due("33: others", x.count(MAX), NONE);
    }

    private void promise34() {
        PoisonBook x = told(SHOP);
        days(x, 2);
        c.due("34: DAY", x.image(0), 2);
        c.due("34: k", x.image(4), NONE);
        c.due("34: k", x.image(-1), NONE);
        c.due("34: k", x.image(MAX), NONE);
        c.due("34: no ACT", x.count(13), 2);
        days(x, 2);
        c.due("34: DAY", x.image(3), 4);
        c.due("34: made anew", x.image(0), 4);
        x.undo();
        c.due("34: made anew", x.back(0), 4);
        c.due("34: without a BOOK", new PoisonBook().image(0), 0);
    }

    private void promise35() {
        PoisonBook x = new PoisonBook();
        x.image(2);
        Checks.book(x, SHOP);
        Checks.rule(x, "buy 1");
        x.force(0);
        x.seed(3);
        x.day();
        x.note(5, 1, 1);
        x.watch(2, 2);
        c.due("35: never made", x.back(1), NONE);
        c.due("35: k", x.back(4), NONE);
        c.due("35: k", x.back(-1), NONE);
        c.due("35: nothing happened", x.count(13), 2);
        x.image(1);
        Checks.book(x, "book 1 1 1;buyer 1 1 1");
        Checks.rule(x, "buy 2");
        x.force(1);
        x.seed(4);
        x.day();
        x.feed(0, 0, 0, 0, 0);
        c.due("35: DAY", x.back(1), 1);
        counts("35", x, 5, 3, 3, 2, 0, 1, 1, 11, 2, 9, 0, 4, 1, 0, 3, 20);
        c.due("35: nothing can be UNDONE", x.undo(), NONE);
        tempers("35", x, 1, 5, 1);
        c.due("35: police", x.sky(2, 1), 4);
        x.note(0, 0, 0);
        c.due("35: the text that was told then", x.ruled(0), 0);
        x.note(NONE, 0, 0);
        c.due("35: the text that was told then", x.ruled(0), 3);
        x.note(0, 2, 0);
        c.due("35: none buys so", x.ruled(1), NONE);
        c.due("35: the one without a BOOK", x.back(2), 0);
        counts("35: without a BOOK", x, 0, 0, 0, 2, NONE, 0, 0, 0, 0, 0, 0, 0, 0, 0, 0, 20);
        c.due("35: without a BOOK", x.day(), NONE);
        c.due("35: these stay", x.back(1), 1);
        x.image(0);
        x.day();
        x.back(0);
        x.day();
        c.due("35: gone back to, twice", x.back(0), 1);
    }

    public static void main(String[] args) {
        PromisesTest t = new PromisesTest();
        t.promise1();
        t.promise2();
        t.promise3();
        t.promise4();
        t.promise5();
        t.promise6();
        t.promise7();
        t.promise8();
        t.promise9();
        t.promise10();
        t.promise11();
        t.promise12();
        t.promise13();
        t.promise14();
        t.promise15();
        t.promise16();
        t.promise17();
        t.promise18();
        t.promise19();
        t.promise20();
        t.promise21();
        t.promise22();
        t.promise23();
        t.promise24();
        t.promise25();
        t.promise26();
        t.promise27();
        t.promise28();
        t.promise29();
        t.promise30();
        t.promise31();
        t.promise32();
        t.promise33();
        t.promise34();
        t.promise35();
        t.c.close("PromisesTest");
    }
}
