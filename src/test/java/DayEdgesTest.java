/**
 * The bounds of a DAY and of ACTS, sentence by sentence of the document's second part, on both sides: of SHELF, TEMPER,
 * STILL, WAITS and DAYS, of what WORDS say, and of ACTS that can be UNDONE.
 */
public final class DayEdgesTest {
    private static final int NONE = PoisonBook.NONE;

    private final Checks c = new Checks();

    private static PoisonBook told(String book, String rule) {
        PoisonBook x = Checks.told(book);
        Checks.rule(x, rule);
        x.force(0);
        return x;
    }

    private static void days(PoisonBook x, int n) {
        for (int i = 0; i < n; i++) {
            x.day();
        }
    }

    private static int limited(int number, int most) {
        return Math.max(0, Math.min(most, number));
    }

    /** "The day of the ROUND of a DAY: what DAY parted by ROUND leaves as rest"; next is "STILL of the next DAY". */
    private void round() {
        for (int round = 1; round <= 10; round++) {
            StringBuilder book = new StringBuilder("book 99 0 " + round);
            for (int clock = 0; clock < round; clock++) {
                book.append(";sky ").append(clock).append(' ').append(clock);
            }
            int last = round - 1;
            PoisonBook x = told(book + ";buyer 0 1 0", "buy 1 if still = clock and clock = day % " + round
                    + " and [ next = clock + 1 and clock < " + last + " or next = 0 and clock = " + last + " ]");
            for (int day = 0; day <= 3 * round; day++) {
                c.due("ROUND " + round + ": DAY", x.count(5), day);
                c.due("ROUND " + round + ": its day on DAY " + day, x.count(6), day % round);
                c.due("ROUND " + round + ": STILL on DAY " + day, x.count(8), day % round);
                c.due("ROUND " + round + ": WORDS on DAY " + day, x.day(), 1);
            }
        }
    }

    /** "they do not wait: more than WAITS DAYS have gone by since they bought or were met last". */
    private void waits() {
        for (int waits = 0; waits <= 9; waits++) {
            PoisonBook bought = told("book 99 0 1;buyer 0 1 " + waits, "buy 1");
            PoisonBook sold = told("book 99 0 1;buyer 0 1 " + waits, "buy 1");
            PoisonBook met = told("book 99 0 1;buyer 0 1 " + waits + ";watch 0 0", "buy 1");
            c.due("they never did or were", bought.count(11), 1);
            c.due("on DAY 0", bought.day(), 1);
            sold.sell(0);
            c.due("0 DAYS have gone by", sold.count(11), 0);
            c.due("0 DAYS have gone by", sold.day(), 0);
            met.day();
            for (int day = 1; day <= waits; day++) {
                c.due("WAITS " + waits + ", bought, can on DAY " + day, bought.count(11), 0);
                c.due("WAITS " + waits + ", bought, on DAY " + day, bought.day(), 0);
                c.due("WAITS " + waits + ", sold, on DAY " + day, sold.day(), 0);
                c.due("WAITS " + waits + ", met, can on DAY " + day, met.count(11), 0);
                met.day();
                c.due("WAITS " + waits + ", met, on DAY " + day, met.buyer(0, 4), 1);
            }
            c.due("WAITS " + waits + ", bought, can then", bought.count(11), 1);
            c.due("WAITS " + waits + ", bought, then", bought.day(), 1);
            c.due("WAITS " + waits + ", sold, then", sold.day(), 1);
            c.due("WAITS " + waits + ", met, can then", met.count(11), 1);
            met.day();
            c.due("WAITS " + waits + ", met, then", met.buyer(0, 4), 2);
        }
    }

    /** "SHELF is GRAINS or more"; "SHELF is GRAINS less". */
    private void shelf() {
        for (int grains = 1; grains <= 9; grains++) {
            for (int shelf = grains - 1; shelf <= grains + 1; shelf++) {
                PoisonBook x = told("book " + shelf + " 0 1;buyer 20 " + grains + " 0", "buy 1");
                int can = shelf >= grains ? 1 : 0;
                String where = "GRAINS " + grains + ", SHELF " + shelf;
                c.due(where + ": can", x.count(11), can);
                c.due(where + ": buys", x.day(), can);
                c.due(where + ": SHELF then", x.count(7), shelf - can * grains);
                c.due(where + ": bought", x.buyer(0, 3), can * grains);
                c.due(where + ": sold", x.count(9), can * grains);
            }
        }
    }

    /** "BUYERS by numbers who CAN buy ..., each by how all is then". */
    private void withinDay() {
        PoisonBook x = told("book 3 0 1;buyer 20 2 0;buyer 20 2 0;buyer 20 1 0", "buy 1");
        c.due("all can at first", x.count(11), 7);
        c.due("0 leaves too few for 1, enough for 2", x.day(), 5);
        PoisonBook y = told("book 9 0 1;buyer 0 2 0;buyer 0 3 0;buyer 0 4 0",
                "buy 1 if buyer = 0 and shelf = 9 and sold = 0; buy 1 if buyer = 1 and shelf = 7 and sold = 2;"
                        + "buy 1 if buyer = 2 and shelf = 4 and sold = 5");
        c.due("what is left, and sold so far", y.day(), 7);
        c.due("GRAINS = SHELF", y.count(7), 0);
        PoisonBook z = told("book 9 0 1;buyer 0 2 0;buyer 0 3 0;watch 0 0", "buy 1 if shelf = 9");
        c.due("who is met takes nothing", z.day(), 2);
    }

    private void buysBy(String rule, int who) {
        c.due(rule, told("book 9 0 1;buyer 0 1 0", rule).day(), who);
    }

    /** "is the SUM of the RULE IN FORCE's first CLAUSE without a TEST, or whose TEST holds (0 without), above 0". */
    private void sums() {
        buysBy("buy 1", 1);
        buysBy("buy 0", 0);
        buysBy("buy 0 - 1", 0);
        buysBy("buy 99999", 1);
        buysBy("buy 0;buy 1", 0);
        buysBy("buy 1;buy 0", 1);
        buysBy("buy 0 if 1=1;buy 1", 0);
        buysBy("buy 0 if 1=2;buy 1", 1);
        buysBy("buy 0 - 1 if 1=1;buy 1", 0);
        buysBy("buy 1 if 1=2", 0);
        buysBy("buy 1 if 1=2;buy 1 if 1=3", 0);
        buysBy("buy 1 if 1=2;buy 0;buy 1", 0);
        buysBy("buy 1 if 1=2;buy 1 if 1=1;buy 0", 1);
    }

    /** "without a RULE: are TEMPER and STILL of this DAY together 12 or more". */
    private void withoutRule() {
        for (int temper = 0; temper <= 20; temper++) {
            for (int still = 0; still <= 9; still++) {
                PoisonBook x = Checks.told("book 9 0 2;sky 0 " + still + ";sky 1 " + (9 - still)
                        + ";buyer " + temper + " 1 0");
                c.due("TEMPER " + temper + ", STILL " + still, x.day(), temper + still >= 12 ? 1 : 0);
            }
        }
    }

    /** "if the police meet them on this day of the ROUND, they are MET once more and buy nothing". */
    private void met() {
        PoisonBook x = told("book 9 0 2;sky 0 3;sky 1 3;buyer 10 2 0;buyer 10 3 0;watch 0 0;watch 1 1", "buy 1");
        c.due("0 is met, 1 buys", x.day(), 2);
        c.due("0 was met", x.buyer(0, 4), 1);
        c.due("0 bought nothing", x.buyer(0, 3), 0);
        c.due("0 is no calmer", x.buyer(0, 0), 10);
        c.due("1 was not met", x.buyer(1, 4), 0);
        c.due("SHELF", x.count(7), 6);
        c.due("1 is met, 0 buys", x.day(), 1);
        c.due("1 was met", x.buyer(1, 4), 1);
        c.due("0 is calmer", x.buyer(0, 0), 4);
        c.due("0 is met again", x.day(), 2);
        c.due("once more", x.buyer(0, 4), 2);
        c.due("anybody", x.count(10), 3);
        PoisonBook y = told("book 9 0 1;buyer 0 2 0;watch 0 0", "buy 0");
        y.day();
        c.due("who does not come is not met", y.count(10), 0);
        PoisonBook z = told("book 1 0 1;buyer 0 2 0;watch 0 0", "buy 1");
        z.day();
        c.due("who can't buy is not met", z.count(10), 0);
    }

    /** "their TEMPER 6 less, 0 at least", by a DAY and by SELL. */
    private void calmerByBuying() {
        for (int temper = 0; temper <= 20; temper++) {
            PoisonBook x = told("book 9 0 1;sky 0 3;buyer " + temper + " 1 0", "buy 1");
            x.day();
            c.due("TEMPER " + temper + ", bought", x.buyer(0, 0), limited(temper - 6, 20));
            PoisonBook y = Checks.told("book 9 0 1;buyer " + temper + " 1 0");
            y.sell(0);
            c.due("TEMPER " + temper + ", sold", y.buyer(0, 0), limited(temper - 6, 20));
        }
    }

    /** "Each TEMPER is 1 more, if STILL is 5 or more, 20 at most; 1 less, if STILL is 2 or less, 0 at least". */
    private void tempers() {
        for (int temper = 0; temper <= 20; temper++) {
            for (int still = 0; still <= 9; still++) {
                int more = still >= 5 ? 1 : still <= 2 ? -1 : 0;
                String where = "TEMPER " + temper + ", STILL " + still;
                PoisonBook x = Checks.told("book 0 0 1;sky 0 " + still + ";buyer 3 1 0;buyer " + temper + " 1 0");
                x.day();
                c.due(where, x.buyer(1, 0), limited(temper + more, 20));
                c.due(where + ": each", x.buyer(0, 0), 3 + more);
                PoisonBook y = told("book 9 0 1;sky 0 " + still + ";buyer " + temper + " 1 0", "buy 1");
                y.day();
                c.due(where + ", after buying", y.buyer(0, 0), limited(limited(temper - 6, 20) + more, 20));
            }
        }
    }

    /** "Is DAY % 7 = 6, SHELF is FILL more, 99 at most." */
    private void fill() {
        for (int fill = 0; fill <= 9; fill++) {
            PoisonBook x = Checks.told("book 0 " + fill + " 10");
            for (int day = 0; day < 30; day++) {
                c.due("FILL " + fill + ", DAY " + day, x.count(7), day / 7 * fill);
                x.day();
            }
            for (int shelf = 88; shelf <= 99; shelf++) {
                PoisonBook y = Checks.told("book " + shelf + " " + fill + " 1");
                days(y, 6);
                c.due("not yet", y.count(7), shelf);
                y.day();
                c.due("SHELF " + shelf + ", FILL " + fill, y.count(7), limited(shelf + fill, 99));
            }
        }
        PoisonBook z = told("book 99 5 1;buyer 0 3 0", "buy 1 if day = 6");
        days(z, 7);
        c.due("filled up after buying", z.count(7), 99);
        PoisonBook w = told("book 0 5 1;buyer 0 5 0", "buy 1");
        days(w, 7);
        c.due("not ahead of buying", w.count(9), 0);
        c.due("on the next DAY", w.day(), 1);
    }

    private void word(PoisonBook x, String word, int value) {
        Checks.rule(x, "buy 1 if buyer = 1 and " + word + " = " + value);
        x.force(x.count(3) - 1);
        c.due(word + " is " + value, x.ahead(1, 1, 1) - x.ahead(1, 0, 1), x.buyer(1, 1));
    }

    /**
     * BUYER 1 bought 3 GRAINS on DAY 0 and 3 by hand on DAY 1, and was met on DAY 3; BUYER 0 bought 2 on DAY 2 and 2 by
     * hand on DAY 4; it is DAY 5.
     */
    private static PoisonBook busy() {
        PoisonBook x = Checks.told("book 50 0 4;sky 0 3;sky 1 4;sky 2 8;sky 3 3;buyer 5 2 0;buyer 17 3 1;watch 3 1");
        x.day();
        x.sell(1);
        x.day();
        x.day();
        Checks.rule(x, "buy buyer");
        x.force(0);
        x.day();
        x.sell(0);
        x.force(NONE);
        x.day();
        return x;
    }

    /** "WORDS ... of a BUYER who can buy". */
    private void words() {
        PoisonBook x = busy();
        word(x, "temper", 6);
        word(x, "grains", 3);
        word(x, "waits", 1);
        word(x, "still", 4);
        word(x, "next", 8);
        PoisonBook y = busy();
        word(y, "shelf", 40);
        word(y, "bought", 6);
        word(y, "met", 1);
        word(y, "since", 2);
        word(y, "sold", 10);
        PoisonBook z = busy();
        word(z, "clock", 1);
        word(z, "day", 5);
        word(z, "buyer", 1);
    }

    /** "since (DAYS since they bought or were met last; 99 without)": a WORD is not cut, buyer(b, 5) is. */
    private void since() {
        PoisonBook never = told("book 9 0 1;buyer 0 1 0", "buy 1 if since = 99");
        c.due("99 without", never.day(), 1);
        for (int since = 1; since <= 199; since += since == 1 ? 97 : since < 101 ? 1 : 49) {
            PoisonBook x = told("book 9 0 1;buyer 0 1 0", "buy 1 if since = " + since);
            x.sell(0);
            c.due("bought " + since + " DAYS ago", x.buys(0), since);
            PoisonBook y = told("book 9 0 1;buyer 0 1 0;watch 0 0", "buy 1 if day = 0 or since = " + since);
            y.day();
            y.watch(0, 0);
            c.due("met " + since + " DAYS ago", y.buys(0), since);
        }
        PoisonBook x = Checks.told("book 9 0 1;buyer 0 1 0");
        x.sell(0);
        for (int day = 0; day <= 102; day++) {
            c.due("since on DAY " + day, x.buyer(0, 5), Math.min(day, 99));
            x.day();
        }
    }

    /** "DAY is 1 more (999 at most by hand; DAYS that are asked go on beyond)": farther than an object is used. */
    private void lastDay() {
        PoisonBook x = told("book 99 0 1;buyer 0 1 0", "buy 1 if day = 999 or day = 1198");
        days(x, 998);
        c.due("DAY 998", x.count(5), 998);
        c.due("one more", x.day(), 0);
        c.due("DAY 999", x.count(5), 999);
        c.due("no more", x.day(), NONE);
        c.due("nothing happened", x.count(5), 999);
        c.due("asked", x.buys(0), 999);
        c.due("asked beyond", x.ahead(0, 100, 1), 1);
        x.sell(0);
        c.due("asked beyond", x.buys(0), 1198);
        c.due("other ACTS go on", x.count(13), 20);
    }

    /** "SELL (... SHELF is GRAINS or more, they BUY, the police or not)". */
    private void sell() {
        for (int shelf = 0; shelf <= 10; shelf++) {
            PoisonBook x = told("book " + shelf + " 0 1;buyer 0 9 9;buyer 20 1 9;watch 0 0;watch 0 1", "buy 0");
            c.due("9 of SHELF " + shelf, x.sell(0), shelf >= 9 ? shelf - 9 : NONE);
            c.due("an ACT, or not", x.count(13), shelf >= 9 ? 1 : 0);
            c.due("met by none", x.count(10), 0);
            c.due("bought", x.buyer(0, 3), shelf >= 9 ? 9 : 0);
        }
        PoisonBook x = told("book 3 0 1;buyer 20 1 9;watch 0 0", "buy 0");
        for (int left = 2; left >= 0; left--) {
            c.due("not done waiting", x.sell(0), left);
        }
        c.due("SHELF is 0", x.sell(0), NONE);
    }

    /** "CALM (a BUYER has as much TEMPER: so much less, 1 to 20)". */
    private void calm() {
        for (int temper = 0; temper <= 20; temper++) {
            for (int much = -1; much <= 22; much++) {
                PoisonBook x = Checks.told("book 0 0 1;buyer " + temper + " 1 0");
                boolean can = much >= 1 && much <= 20 && much <= temper;
                String where = "TEMPER " + temper + ", so much less: " + much;
                c.due(where, x.calm(0, much), can ? temper - much : NONE);
                c.due(where + ": then", x.buyer(0, 0), can ? temper - much : temper);
                c.due(where + ": an ACT", x.count(13), can ? 1 : 0);
            }
        }
    }

    /** "WATCH (... the police meet them on it, if they did not, and do not, if they did)". */
    private void watch() {
        String six = ";buyer 0 1 0".repeat(6);
        for (int clock = 0; clock < 10; clock++) {
            for (int b = 0; b < 6; b++) {
                PoisonBook x = Checks.told("book 0 0 10" + six);
                c.due("met then", x.watch(clock, b), 1);
                c.due("met", x.sky(clock, 1), 1 << b);
                c.due("another one", x.watch(clock, (b + 1) % 6), 1);
                c.due("not met then", x.watch(clock, b), 0);
                c.due("only the other one", x.sky(clock, 1), 1 << (b + 1) % 6);
                c.due("on no other day", x.sky((clock + 1) % 10, 1), 0);
            }
        }
        for (int round = 1; round <= 10; round++) {
            c.due("ROUND " + round, Checks.told("book 0 0 " + round + six).watch(round - 1, 5), 1);
            c.due("ROUND " + round, Checks.told("book 0 0 " + round + six).watch(round, 5), NONE);
        }
        for (int buyers = 1; buyers <= 6; buyers++) {
            String some = "book 0 0 1" + ";buyer 0 1 0".repeat(buyers);
            c.due("BUYERS " + buyers, Checks.told(some).watch(0, buyers - 1), 1);
            c.due("BUYERS " + buyers, Checks.told(some).watch(0, buyers), NONE);
        }
    }

    /** "SKY (a day of the ROUND has another STILL, 0 to 9)". */
    private void change() {
        for (int was = 0; was <= 9; was++) {
            for (int still = -1; still <= 10; still++) {
                PoisonBook x = Checks.told("book 0 0 2;sky 1 " + was);
                boolean can = still >= 0 && still <= 9 && still != was;
                c.due("STILL " + was + " becomes " + still, x.change(1, still), can ? was : NONE);
                c.due("then", x.sky(1, 0), can ? still : was);
                c.due("not the other day", x.sky(0, 0), 0);
                c.due("an ACT", x.count(13), can ? 1 : 0);
            }
        }
        for (int round = 1; round <= 10; round++) {
            c.due("ROUND " + round, Checks.told("book 0 0 " + round).change(round - 1, 1), 0);
            c.due("ROUND " + round, Checks.told("book 0 0 " + round).change(round, 1), NONE);
        }
    }

    /** "The last 20 can be UNDONE, the last first." */
    private void undo() {
        for (int acts = 0; acts <= 45; acts++) {
            PoisonBook x = Checks.told("book 0 0 1");
            days(x, acts);
            int can = Math.min(20, acts);
            c.due("ACTS that can be UNDONE after " + acts, x.count(13), can);
            for (int left = can - 1; left >= 0; left--) {
                c.due("how many more can be", x.undo(), left);
                c.due("the last first", x.count(5), acts - can + left);
            }
            c.due("none can", x.undo(), NONE);
            c.due("nothing happens", x.count(5), acts - can);
        }
    }

    /** Undoing leaves room for as many new ACTS; what goes out of the 20 is gone. */
    private void undoAndGoOn() {
        for (int undone = 0; undone <= 20; undone++) {
            PoisonBook x = Checks.told("book 0 0 1");
            days(x, 25);
            for (int i = 0; i < undone; i++) {
                x.undo();
            }
            int more = 7;
            days(x, more);
            int can = Math.min(20, 20 - undone + more);
            int day = 25 - undone + more;
            c.due(undone + " UNDONE, and 7 more", x.count(13), can);
            c.due("DAY", x.count(5), day);
            for (int left = can - 1; left >= 0; left--) {
                c.due("how many more can be", x.undo(), left);
                c.due("DAY", x.count(5), day - can + left);
            }
            c.due("none can", x.undo(), NONE);
        }
    }

    public static void main(String[] args) {
        DayEdgesTest t = new DayEdgesTest();
        t.round();
        t.waits();
        t.shelf();
        t.withinDay();
        t.sums();
        t.withoutRule();
        t.met();
        t.calmerByBuying();
        t.tempers();
        t.fill();
        t.words();
        t.since();
        t.lastDay();
        t.sell();
        t.calm();
        t.watch();
        t.change();
        t.undo();
        t.undoAndGoOn();
        t.c.close("DayEdgesTest");
    }
}
