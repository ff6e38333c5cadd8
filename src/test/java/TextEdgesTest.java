import java.util.function.ToIntFunction;

/**
 * The bounds of texts, sentence by sentence of the document's Terms, on both sides: of a BOOK and its CLAUSES, of RULES,
 * VALUES, FACTS and depth, of FAULTS and their places, and where numbers go round.
 */
public final class TextEdgesTest {
    private static final int NONE = PoisonBook.NONE;
    private static final int STANDS = 0;
    private static final int NUMBER = 1;
    private static final int DEEP = 2;
    private static final int MANY = 3;
    private static final int CLAUSE = 4;
    /** 2 by itself 63 times, which goes round to the least number of 64 bits. */
    private static final String LEAST = "32768 * 32768 * 32768 * 32768 * 8";

    private final Checks c = new Checks();

    private void book(String text, int want) {
        c.due("book: " + text, Checks.book(new PoisonBook(), text), want);
    }

    private void rule(String text, int want) {
        c.due("rule: " + text, Checks.rule(new PoisonBook(), text), want);
    }

    private static int fault(int place, int kind) {
        return Checks.fault(place, kind);
    }

    /** A NUMBER where # stands: each from the least to the most is taken and told; the ones beside are a FAULT there. */
    private void bounds(String text, int least, int most, ToIntFunction<PoisonBook> told) {
        int place = text.indexOf('#');
        for (int n = least; n <= most; n++) {
            PoisonBook x = new PoisonBook();
            c.holds(text + " with " + n, Checks.book(x, text.replace("#", "" + n)) >= 0);
            c.due(text + " with " + n + " tells", told.applyAsInt(x), n);
        }
        if (least > 0) {
            book(text.replace("#", "" + (least - 1)), fault(place, NUMBER));
        }
        book(text.replace("#", "" + (most + 1)), fault(place, NUMBER));
        book(text.replace("#", "99999"), fault(place, NUMBER));
        book(text.replace("#", "-1"), fault(place, STANDS));
        book(text.replace("#", "x"), fault(place, STANDS));
        book(text.substring(0, place), fault(place, STANDS));
    }

    /** "SHELF 0 to 99; FILL 0 to 9; ROUND 1 to 10". */
    private void numbersOfBook() {
        bounds("book # 0 1", 0, 99, x -> x.count(7));
        bounds("book 0 # 1", 0, 9, x -> x.count(0));
        bounds("book 0 0 #", 1, 10, x -> x.count(1));
    }

    /** "a day of the ROUND, 0 to ROUND - 1; STILL 0 to 9". */
    private void numbersOfSky() {
        for (int round = 1; round <= 10; round++) {
            bounds("book 0 0 " + round + ";sky # 7", 0, round - 1, x -> onlySky(x, 0, 7));
        }
        bounds("book 0 0 1;sky 0 #", 0, 9, x -> x.sky(0, 0));
        bounds("book 0 0 10;sky 9 #", 0, 9, x -> x.sky(9, 0));
    }

    /** The one day of the ROUND of which this is so; on the others it is 0. */
    private static int onlySky(PoisonBook x, int what, int value) {
        int found = -5;
        for (int clock = 0; clock < x.count(1); clock++) {
            if (x.sky(clock, what) == value) {
                found = found == -5 ? clock : -6;
            } else if (x.sky(clock, what) != 0) {
                return -7;
            }
        }
        return found;
    }

    /** "of the same day the last told; 0 without". */
    private void sameDayOfSky() {
        PoisonBook x = Checks.told("book 0 0 3;sky 1 9;sky 2 3;sky 1 0;sky 2 5;sky 2 4");
        c.due("0 without", x.sky(0, 0), 0);
        c.due("the last told, 0", x.sky(1, 0), 0);
        c.due("the last told, 4", x.sky(2, 0), 4);
    }

    /** "TEMPER 0 to 20; GRAINS 1 to 9; WAITS 0 to 9, DAYS". */
    private void numbersOfBuyer() {
        for (int before = 0; before < 6; before++) {
            int b = before;
            String text = "book 0 0 1" + ";buyer 1 1 1".repeat(before) + ";buyer ";
            bounds(text + "# 1 0", 0, 20, x -> x.buyer(b, 0));
            bounds(text + "0 # 0", 1, 9, x -> x.buyer(b, 1));
            bounds(text + "0 1 #", 0, 9, x -> x.buyer(b, 2));
        }
    }

    /** "a day of the ROUND; a BUYER that was told, whom the police meet on it; told already: nothing new". */
    private void numbersOfWatch() {
        for (int round = 1; round <= 10; round++) {
            bounds("book 0 0 " + round + ";buyer 0 1 0;watch # 0", 0, round - 1, x -> onlySky(x, 1, 1));
        }
        for (int buyers = 1; buyers <= 6; buyers++) {
            bounds("book 0 0 1" + ";buyer 0 1 0".repeat(buyers) + ";watch 0 #", 0, buyers - 1,
                    x -> Integer.numberOfTrailingZeros(x.sky(0, 1)));
        }
        book("book 0 0 1;watch 0 0", fault(19, NUMBER));
        book("book 0 0 1;watch 0 0;buyer 0 1 0", fault(19, NUMBER));
        book("book 0 0 1;buyer 0 1 0;watch 0 1;buyer 0 1 0", fault(31, NUMBER));
        book("book 0 0 1;buyer 0 1 0;watch 0 0;buyer 0 1 0;watch 0 1", 2);
        c.due("told twice", Checks.told("book 0 0 1;buyer 0 1 0;watch 0 0;watch 0 0").sky(0, 1), 1);
        c.due("told three times", Checks.told("book 0 0 1;buyer 0 1 0;watch 0 0;watch 0 0;watch 0 0").sky(0, 1), 1);
    }

    /** "BUYERS 0 to 5, in the order told"; "a seventh BUYER (at its first byte)". */
    private void buyers() {
        String text = "book 0 0 1";
        for (int told = 0; told < 6; told++) {
            book(text, told);
            text += ";buyer " + (10 + told) + " 1 0";
        }
        book(text, 6);
        PoisonBook x = Checks.told(text);
        for (int b = 0; b < 6; b++) {
            c.due("in the order told", x.buyer(b, 0), 10 + b);
        }
        c.due("no seventh", x.buyer(6, 0), NONE);
        book(text + ";buyer 0 1 0", fault(text.length() + 1, CLAUSE));
        book(text + ";  buyer 99", fault(text.length() + 3, CLAUSE));
        book(text + ";sky 0 0;watch 0 5", 6);
    }

    /** "It is DAY 0; nobody has bought, nobody waits, nobody was met." */
    private void begin() {
        PoisonBook x = Checks.told("book 9 0 1" + ";buyer 20 9 9".repeat(6) + ";watch 0 0");
        x.day();
        Checks.book(x, "book 9 0 1" + ";buyer 20 9 9".repeat(6));
        c.due("DAY 0", x.count(5), 0);
        c.due("nobody waits", x.count(11), 63);
        c.due("nothing sold", x.count(9), 0);
        c.due("nobody met", x.count(10), 0);
        for (int b = 0; b < 6; b++) {
            c.due("nobody has bought", x.buyer(b, 3), 0);
            c.due("nobody was met", x.buyer(b, 4), 0);
            c.due("nobody has bought or was met", x.buyer(b, 5), 99);
        }
    }

    /** "CLAUSE { ; CLAUSE }, 40 at most"; "one CLAUSE too many". */
    private void clausesOfBook() {
        for (int clauses = 1; clauses <= 40; clauses++) {
            book("book 0 0 1" + ";sky 0 1".repeat(clauses - 1), 0);
        }
        String forty = "book 0 0 1" + ";sky 0 1".repeat(39);
        book(forty + ";sky 0 1", fault(forty.length() + 1, CLAUSE));
        book(forty + "; watch", fault(forty.length() + 2, CLAUSE));
        book(forty + ";", fault(forty.length() + 1, STANDS));
        book(forty + ";x", fault(forty.length() + 1, STANDS));
        book("", fault(0, STANDS));
        book(";", fault(0, STANDS));
        book("book 0 0 1;", fault(11, STANDS));
        book(";book 0 0 1", fault(0, STANDS));
    }

    /** "once, the first CLAUSE"; "a second book, another CLAUSE ahead of it". */
    private void bookOnceAndFirst() {
        book("book 0 0 1;book 0 0 1", fault(11, CLAUSE));
        book("book 0 0 1;sky 0 0;book 0 0 1", fault(19, CLAUSE));
        book("book 0 0 1;book", fault(11, CLAUSE));
        for (String word : new String[] {"sky", "buyer", "watch"}) {
            book(word + " 0 0", fault(0, CLAUSE));
            book("   " + word + " 0 1 0;book 0 0 1", fault(3, CLAUSE));
            book(word + " 123456", fault(0, CLAUSE));
        }
        book("buy 1", fault(0, STANDS));
        book("bookbook 0 0 1", fault(0, STANDS));
    }

    /** "A BOOK is a text of at most 400 bytes"; RULES "texts likewise". */
    private void bytes() {
        String most = "book 7 0 1" + " ".repeat(390);
        PoisonBook x = new PoisonBook();
        c.due("a BOOK of 400 bytes", Checks.book(x, most), 0);
        c.due("its SHELF", x.count(7), 7);
        book(most.substring(0, 399), 0);
        book(most.substring(0, 399) + ";", fault(400, STANDS));
        book(" ".repeat(400), fault(400, STANDS));
        book(" ".repeat(399) + "x", fault(399, STANDS));
        book(" ".repeat(396) + "book", fault(400, STANDS));
        rule(" ".repeat(395) + "buy 1", 0);
        rule("buy 1" + " ".repeat(395), 0);
        rule(" ".repeat(397) + "buy", fault(400, STANDS));
        rule(" ".repeat(394) + "buy 1;", fault(400, STANDS));
    }

    /** "RULES 0 to 5: texts likewise, 12 CLAUSES at most"; "one CLAUSE too many". */
    private void clausesOfRule() {
        for (int clauses = 1; clauses <= 12; clauses++) {
            rule("buy 1" + ";buy 1 if 1=1".repeat(clauses - 1), 0);
        }
        String twelve = "buy 1" + ";buy 1".repeat(11);
        rule(twelve + ";buy 1", fault(twelve.length() + 1, CLAUSE));
        rule(twelve + ";   buy", fault(twelve.length() + 4, CLAUSE));
        rule(twelve + ";", fault(twelve.length() + 1, STANDS));
        rule(twelve + ";sky", fault(twelve.length() + 1, STANDS));
        rule(twelve + " if 1=1", 0);
        PoisonBook x = Checks.told("book 9 0 1;buyer 0 1 0");
        Checks.rule(x, "buy 0 if 1=2;".repeat(11) + "buy 1");
        x.force(0);
        c.due("the twelfth holds", x.day(), 1);
        PoisonBook y = new PoisonBook();
        for (int number = 0; number <= 5; number++) {
            c.due("RULES 0 to 5", Checks.rule(y, "buy " + number), number);
        }
        c.due("no seventh", Checks.rule(y, "buy 6"), NONE);
    }

    /** "NUMBER (1 to 5 digits, as far as digits go on)"; "a NUMBER of more digits, or not as told". */
    private void digits() {
        for (String number : new String[] {"0", "00", "99999", "00000", "00099"}) {
            rule("buy " + number, 0);
        }
        for (String number : new String[] {"000000", "100000", "000001", "99999999999999999999", "4294967297"}) {
            rule("buy " + number, fault(4, NUMBER));
            rule("buy 1 if 1 = " + number, fault(13, NUMBER));
            book("book " + number + " 0 1", fault(5, NUMBER));
        }
        rule("buy 12345 6", fault(10, STANDS));
        rule("buy 1 2", fault(6, STANDS));
        book("book 00099 00009 00010", 0);
        book("book 0000000099 0 1", fault(5, NUMBER));
        book("book 0 0 1 123456", fault(11, STANDS));
        book("book 001", fault(8, STANDS));
        comesTo("99999 + 1", "10000 * 10", true);
        comesTo("00012", "12", true);
        comesTo("00099", "63", false);
    }

    /** "WORDS (small letters, as far as these go on)". */
    private void words() {
        for (String word : new String[] {"buyer", "temper", "grains", "waits", "still", "next", "shelf", "bought", "met",
            "since", "sold", "clock", "day"}) {
            rule("buy " + word, 0);
            rule("buy 1*" + word + "+1", 0);
            rule("buy " + word + "s", fault(4, STANDS));
            rule("buy " + word.substring(0, word.length() - 1), fault(4, STANDS));
            rule("buy " + word.substring(1), fault(4, STANDS));
            rule("buy " + word.toUpperCase(), fault(4, STANDS));
            rule("buy " + word + "D", fault(4 + word.length(), STANDS));
            rule("buy " + word + word, fault(4, STANDS));
            rule("buy " + word + "if 1=1", fault(4, STANDS));
            rule("buy " + word + "1", fault(4 + word.length(), STANDS));
        }
        for (String word : new String[] {"fill", "round", "police", "none", "or", "and", "not", "if", "buy", "book"}) {
            rule("buy " + word, fault(4, STANDS));
        }
        rule("buy1", 0);
        rule("buy1if1=1", 0);
        rule("buyday", fault(0, STANDS));
        rule("buy 1 ifday = 1", fault(6, STANDS));
        rule("buy 1 if notday = 1", fault(9, STANDS));
        rule("buy 1 if day = 1and 1 = 1or 1 = 1", 0);
    }

    /** "Blanks (32) stand between as one likes." */
    private void blanks() {
        rule("buy 1+2*3-4/5%6 if not[1<2]and 1<=2or 1=2or 1>=2or 1>2;buy 0", 0);
        rule("  buy  1 +  2 *  3  if  not  [  1  <  2  ]  and  1  <=  2  ;  buy  0  ", 0);
        book("  book  1  2  3  ;  sky  0  1  ;buyer  1  2  3;  watch  2  0  ", 1);
        book("book1 2 3;sky0 1;buyer1 2 3;watch2 0", 1);
        for (char other : new char[] {0, 9, 10, 13, 31, 33, 127, 160, 255}) {
            book("book 1" + other + "2 3", fault(6, STANDS));
            rule("buy" + other + "1", fault(3, STANDS));
            rule("buy 1" + other, fault(5, STANDS));
        }
        rule("buy 1 if 1 < = 2", fault(13, STANDS));
        rule("buy 1 if 1 > = 2", fault(13, STANDS));
        rule("bu y 1", fault(0, STANDS));
        book("bo ok 1 2 3", fault(0, STANDS));
    }

    /** "SIGN one of < <= = >= >". */
    private void signs() {
        for (int left = 0; left < 3; left++) {
            holds(left + " < 1", left < 1);
            holds(left + " <= 1", left <= 1);
            holds(left + " = 1", left == 1);
            holds(left + " >= 1", left >= 1);
            holds(left + " > 1", left > 1);
        }
        for (String sign : new String[] {"==", "=<", "=>", "<>", "<<", ">>", "><"}) {
            rule("buy 1 if 1 " + sign + " 1", fault(12, STANDS));
        }
        rule("buy 1 if 1 <== 1", fault(13, STANDS));
        rule("buy 1 if 1 != 1", fault(11, STANDS));
        rule("buy 1 if 1 = 1 = 1", fault(15, STANDS));
    }

    /** "[ and not lie within one another 10 deep at most"; "too deep (at the sign that opens, or the word not)". */
    private void depth() {
        for (int nots = 0; nots <= 11; nots++) {
            for (int opened = 0; opened + nots <= 11; opened++) {
                String head = "buy 1 if " + "not ".repeat(nots) + "[".repeat(opened);
                int last = opened > 0 ? head.length() - 1 : head.length() - 4;
                rule(head + "1=1" + "]".repeat(opened), opened + nots <= 10 ? 0 : fault(last, DEEP));
                if (opened > 0 && opened + nots <= 10) {
                    rule(head + "1=1 and [2=2]" + "]".repeat(opened),
                            opened + nots < 10 ? 0 : fault(head.length() + 8, DEEP));
                }
            }
        }
    }

    /** What is closed lies within nothing more. */
    private void depthBesideOneAnother() {
        String ten = "not [".repeat(5) + "1=1" + "]".repeat(5);
        rule("buy 1 if " + ten, 0);
        rule("buy 1 if " + ten + "and " + ten + "or " + ten, 0);
        rule("buy 1 if " + "not 1=1 and ".repeat(14) + "not 1=1", 0);
        rule("buy 1 if " + "[1=1] or ".repeat(14) + "[1=1]", 0);
        rule("buy 1 if [" + ten + "]", fault(9 + 1 + 24, DEEP));
        rule("buy 1 if [[1=1] and " + ten + "]", fault(9 + 11 + 24, DEEP));
        rule("buy 1 if " + "[".repeat(10) + "not", fault(19, DEEP));
        rule("buy 1 if " + "[".repeat(10) + "nor", fault(19, STANDS));
        rule("buy 1 if " + "[".repeat(10) + "]", fault(19, STANDS));
        holds("not ".repeat(10) + "1 = 1", true);
        holds("not ".repeat(9) + "1 = 1", false);
    }

    /** "at most 60 VALUES (of SUMS) and FACTS made of a SIGN, together"; "at its first byte; of a FACT at its SIGN". */
    private void values() {
        for (int values = 1; values <= 62; values++) {
            String sum = "buy day" + " + 12".repeat(values - 1);
            rule(sum, values <= 60 ? 0 : fault(7 + 5 * 59 + 3, MANY));
        }
        for (int facts = 1; facts <= 21; facts++) {
            String text = "buy 1 if " + "1=1 or ".repeat(facts - 1) + "1=1";
            rule(text, facts <= 19 ? 0 : fault(9 + 7 * 19 + 2, MANY));
        }
        String twenty = " if " + "1=1 or ".repeat(18) + "1=1";
        rule("buy 1+1" + twenty, 0);
        rule("buy 1+1+1" + twenty, 0);
        rule("buy 1+1+1+1" + twenty, fault(11 + 4 + 7 * 18 + 2, MANY));
        rule("buy 1+1+1+1+1" + twenty, fault(13 + 4 + 7 * 18 + 1, MANY));
        rule("buy 1+1+1+1+1+1" + twenty, fault(15 + 4 + 7 * 18, MANY));
        rule("buy 1+1+1" + twenty + ";buy 1", fault(9 + twenty.length() + 5, MANY));
    }

    /** Brackets, not, and, or, buy and if are neither VALUES nor FACTS made of a SIGN. */
    private void notCounted() {
        String facts = "[1=1] and not [1=1] or ".repeat(9) + "[[1=1]]";
        rule("buy 1+1+1 if " + facts, 0);
        rule("buy 1+1+1+1 if " + facts, fault(15 + facts.length() - 3, MANY));
    }

    /** "0 a byte or WORD that can't stand there, or the end (behind the last byte)". */
    private void ends() {
        String text = "buy 1 if not [ 2 = 3 ] ; buy 4";
        for (int length = 0; length < text.length(); length++) {
            String part = text.substring(0, length);
            boolean isWhole = part.matches("buy 1 ?( if not \\[ 2 = 3 \\] ?)?");
            int want = isWhole ? 0 : fault(placeOfEnd(part), STANDS);
            rule(part, want);
        }
        rule(text + " 1", fault(text.length() + 1, STANDS));
    }

    /** A WORD that the end cuts off can't stand where it begins; else the end is the FAULT. */
    private static int placeOfEnd(String part) {
        for (String cut : new String[] {"b", "bu", "i", "n", "no"}) {
            if (part.matches("(.*[^a-z])?" + cut)) {
                return part.length() - cut.length();
            }
        }
        return part.length();
    }

    /** "FAULTS, the first along the text"; "Of one place the least." */
    private void whichOfSeveral() {
        book("book 100 10 11;sky", fault(5, NUMBER));
        book("book 0 x 11", fault(7, STANDS));
        book("book 0 10 x", fault(7, NUMBER));
        book("sky 99 99;book 0 0 1", fault(0, CLAUSE));
        String six = "book 0 0 1" + ";buyer 0 1 0".repeat(6);
        book(six + ";buyers 99", fault(six.length() + 1, STANDS));
        book(six + ";sky 1 0;buyer 0 1 0", fault(six.length() + 5, NUMBER));
        String sixty = "buy 1" + "+1".repeat(59);
        rule(sixty + "+123456", fault(sixty.length() + 1, NUMBER));
        rule(sixty + "+x", fault(sixty.length() + 1, STANDS));
        rule(sixty + "+1 x", fault(sixty.length() + 1, MANY));
        rule(sixty + " x+1", fault(sixty.length() + 1, STANDS));
        rule("buy 123456 + x", fault(4, NUMBER));
        rule("buy x + 123456", fault(4, STANDS));
        rule("buy 1 if " + "[".repeat(11) + "x", fault(19, DEEP));
        rule("buy 1 if [x " + "[".repeat(11), fault(10, STANDS));
        String twelve = "buy 1" + ";buy 1".repeat(11);
        rule(twelve + ";buy x", fault(twelve.length() + 1, CLAUSE));
        rule(twelve + ";buys 1", fault(twelve.length() + 1, STANDS));
    }

    /** Each text is looked at by itself, whatever was told, or was a FAULT, ahead of it: RULES. */
    private void ruleAfterRule() {
        PoisonBook x = new PoisonBook();
        String sixty = "buy 1" + "+1".repeat(56) + " if [[1=1]]";
        String twelve = "buy 1" + ";buy 1".repeat(11);
        for (int number = 0; number < 6; number++) {
            c.due("a FAULT of VALUES", Checks.rule(x, sixty + " or 1=1"), fault(sixty.length() + 4, MANY));
            c.due("a FAULT of CLAUSES", Checks.rule(x, twelve + ";buy 1"), fault(twelve.length() + 1, CLAUSE));
            c.due("a FAULT of depth", Checks.rule(x, "buy 1 if " + "[".repeat(11)), fault(19, DEEP));
            c.due("its number", Checks.rule(x, number % 2 == 0 ? sixty : twelve), number);
        }
    }

    /** The same of BOOKS: nothing of a text that was told, or was a FAULT, is left. */
    private void bookAfterBook() {
        StringBuilder full = new StringBuilder("book 99 9 10");
        for (int clock = 0; clock < 10; clock++) {
            full.append(";sky ").append(clock).append(" 9");
        }
        full.append(";buyer 20 9 9".repeat(6));
        for (int clock = 0; clock < 10; clock++) {
            full.append(";watch ").append(clock).append(" 0");
        }
        for (String behind : new String[] {"", ";", ";book 0 0 1", ";buyer 1 1 1", ";sky 10 0"}) {
            PoisonBook x = new PoisonBook();
            c.holds("told, or a FAULT", Checks.book(x, full + behind) == 6 == behind.isEmpty());
            c.due("another one", Checks.book(x, "book 1 0 10;buyer 1 2 3"), 1);
            c.due("SHELF", x.count(7), 1);
            c.due("FILL", x.count(0), 0);
            for (int clock = 0; clock < 10; clock++) {
                c.due("STILL, 0 without", x.sky(clock, 0), 0);
                c.due("nobody is met", x.sky(clock, 1), 0);
            }
            for (int what = 0; what < 5; what++) {
                c.due("the BUYER", x.buyer(0, what), what < 3 ? what + 1 : 0);
                c.due("no other one", x.buyer(1, what), NONE);
            }
        }
    }

    private void holds(String test, boolean holds) {
        PoisonBook x = Checks.told("book 50 0 1;buyer 11 4 2");
        Checks.rule(x, "buy 1 if " + test);
        c.due("a RULE of " + test, x.force(0), NONE);
        c.due(test, x.day(), holds ? 1 : 0);
    }

    private void comesTo(String one, String other, boolean alike) {
        holds(one + " = " + other, alike);
    }

    /** "/ is towards 0, % its rest, both 0 by 0". */
    private void partedBy() {
        comesTo("7 / 2", "3", true);
        comesTo("7 / 7", "1", true);
        comesTo("6 / 7", "0", true);
        comesTo("7 % 7", "0", true);
        comesTo("6 % 7", "6", true);
        comesTo("7 / 0", "0", true);
        comesTo("7 % 0", "0", true);
        comesTo("0 / 0", "0", true);
        comesTo("7 / day", "0", true);
        comesTo("7 % clock + 1", "1", true);
        comesTo(LEAST + " % 3", "0 - 2", true);
        comesTo(LEAST + " / 3 * 3", LEAST + " + 2", true);
        comesTo(LEAST + " / 99999 / 99999 / 99999", "0 - 9223", true);
        comesTo(LEAST + " % 0", "0", true);
        comesTo(LEAST + " / 0", "0", true);
    }

    /** "all goes round in 64 bits". */
    private void goesRound() {
        holds(LEAST + " < 0", true);
        holds(LEAST + " - 1 > 0", true);
        holds(LEAST + " + " + LEAST + " = 0", true);
        holds(LEAST + " * 2 = 0", true);
        holds(LEAST + " * 2 + 1 = 1", true);
        holds(LEAST + " / 2 * 2 = " + LEAST, true);
        holds("0 - " + LEAST + " = " + LEAST, true);
        holds("65536 * 32768 > 0", true);
        holds("65536 * 65536 > 0", true);
        holds("65536 * 65536 * 32768 / 65536 = 65536 * 32768", true);
        buysBy(LEAST, 0);
        buysBy(LEAST + " - 1", 1);
        buysBy(LEAST + " * 2", 0);
        buysBy("65536 * 32768", 1);
        buysBy("65536 * 65536", 1);
    }

    private void buysBy(String sum, int who) {
        PoisonBook x = Checks.told("book 50 0 1;buyer 11 4 2");
        Checks.rule(x, "buy " + sum);
        c.due("a RULE of " + sum, x.force(0), NONE);
        c.due(sum, x.day(), who);
    }

    public static void main(String[] args) {
        TextEdgesTest t = new TextEdgesTest();
        t.numbersOfBook();
        t.numbersOfSky();
        t.sameDayOfSky();
        t.numbersOfBuyer();
        t.numbersOfWatch();
        t.buyers();
        t.begin();
        t.clausesOfBook();
        t.bookOnceAndFirst();
        t.bytes();
        t.clausesOfRule();
        t.digits();
        t.words();
        t.blanks();
        t.signs();
        t.depth();
        t.depthBesideOneAnother();
        t.values();
        t.notCounted();
        t.ends();
        t.whichOfSeveral();
        t.ruleAfterRule();
        t.bookAfterBook();
        t.partedBy();
        t.goesRound();
        t.c.close("TextEdgesTest");
    }
}
