import java.util.Arrays;

/** A poisons book, signed by the weather. ../shared/DOC.md says what each call answers and changes. */
public final class PoisonBook {
    public static final int NONE = -1;

    /** Answers that stand beside NONE where NONE is taken, or means something else. */
    private static final int NO_SUCH = -2;
    private static final int NOT_ASKED_SO = -3;

    private static final int MOST_BYTES = 400;
    private static final int BYTES_FED = 20;
    private static final int MOST_RULES = 6;
    private static final int MOST_BUYERS = 6;
    private static final int MOST_ROUND = 10;
    private static final int MOST_IMAGES = 4;
    private static final int MOST_TEMPER = 20;
    private static final int MOST_STILL = 9;
    private static final int MOST_SHELF = 99;
    private static final int LAST_DAY = 999;

    private final Tape tape = new Tape();
    private final BookReader bookReader = new BookReader();
    private final RuleReader ruleReader = new RuleReader();
    private final Rule[] rules = new Rule[MOST_RULES];
    private int ruleCount = 0;
    private final Scene scene = new Scene();
    /** The shop of the scene, as it is now. */
    private final Shop shop = scene.now;
    private final Past past = new Past();
    private final Scene[] images = new Scene[MOST_IMAGES];
    private final Outlook outlook = new Outlook();
    private final Choices choices = new Choices();
    private final Inquiry inquiry = new Inquiry();

    public PoisonBook() {
    }

    public int feed(int a, int b, int c, int d, int e) {
        if (!tape.hasRoom()) {
            return NONE;
        }
        tape.add(a);
        tape.add(b);
        tape.add(c);
        tape.add(d);
        tape.add(e);
        return tape.length;
    }

    public int end(int n) {
        if (n < 0 || n > tape.length) {
            return NONE;
        }
        tape.length = n;
        return n;
    }

    public int book() {
        int fault = bookReader.read(tape);
        tape.length = 0;
        if (fault != 0) {
            return NO_SUCH - fault;
        }
        scene.begin.copyFrom(bookReader.shop);
        shop.copyFrom(bookReader.shop);
        scene.notes.size = 0;
        past.size = 0;
        return shop.buyers;
    }

    public int rule() {
        if (ruleCount < 0 || ruleCount >= rules.length) {
            return NONE;
        }
        Rule read = ruleReader.read(tape);
        tape.length = 0;
        if (read == null) {
            return NO_SUCH - tape.fault;
        }
        rules[ruleCount] = read;
        ruleCount++;
        return ruleCount - 1;
    }

    public int force(int rule) {
        if (rule < NONE || rule >= ruleCount) {
            return NO_SUCH;
        }
        int was = scene.inForce;
        scene.inForce = rule;
        return was;
    }

    public int buyer(int buyer, int what) {
        if (!shop.hasBuyer(buyer)) {
            return NONE;
        }
        switch (what) {
            case 0:
                return shop.temper[buyer];
            case 1:
                return shop.grains[buyer];
            case 2:
                return shop.waits[buyer];
            case 3:
                return shop.bought[buyer];
            case 4:
                return shop.met[buyer];
            case 5:
                return Math.min(Shop.NEVER, shop.daysSince(buyer));
            default:
                return NONE;
        }
    }

    public int sky(int clock, int what) {
        if (!shop.hasClock(clock) || !isWithin(what, 0, 1)) {
            return NONE;
        }
        return what == 0 ? shop.still[clock] : shop.watched[clock];
    }

    public int day() {
        if (!shop.isTold() || shop.day >= LAST_DAY) {
            return NONE;
        }
        past.keep(shop);
        return shop.goThroughDay(ruleInForce());
    }

    public int sell(int buyer) {
        if (!shop.hasBuyer(buyer) || shop.shelf < shop.grains[buyer]) {
            return NONE;
        }
        past.keep(shop);
        shop.handOver(buyer);
        return shop.shelf;
    }

    public int calm(int buyer, int much) {
        if (!shop.hasBuyer(buyer) || !isWithin(much, 1, MOST_TEMPER) || shop.temper[buyer] < much) {
            return NONE;
        }
        past.keep(shop);
        shop.temper[buyer] -= much;
        return shop.temper[buyer];
    }

    public int watch(int clock, int buyer) {
        if (!shop.hasClock(clock) || !shop.hasBuyer(buyer)) {
            return NONE;
        }
        past.keep(shop);
        shop.watched[clock] ^= 1 << buyer;
        return shop.watched[clock] >> buyer & 1;
    }

    public int change(int clock, int still) {
        if (!shop.hasClock(clock) || !isWithin(still, 0, MOST_STILL) || shop.still[clock] == still) {
            return NONE;
        }
        past.keep(shop);
        int was = shop.still[clock];
        shop.still[clock] = still;
        return was;
    }

    public int undo() {
        return past.giveBack(shop);
    }

    public int ahead(int buyer, int n, int what) {
        if (!shop.isTold() || !isWithin(n, 0, 100) || !isWithin(what, 0, 2)) {
            return NONE;
        }
        if (what != 2 && !shop.hasBuyer(buyer)) {
            return NONE;
        }
        return outlook.aheadOf(shop, ruleInForce(), buyer, n, what);
    }

    public int buys(int buyer) {
        return shop.hasBuyer(buyer) ? outlook.firstPurchase(shop, ruleInForce(), buyer) : NONE;
    }

    public int empty() {
        return shop.isTold() ? outlook.firstEmptyShelf(shop, ruleInForce()) : NONE;
    }

    public int tells(int n, int what) {
        if (!shop.isTold() || !isWithin(n, 1, 100) || !isWithin(what, 0, 1)) {
            return NONE;
        }
        return outlook.weatherFraction(shop, ruleInForce(), n, what);
    }

    public int guard(int n, int what) {
        if (!shop.isTold() || !isWithin(n, 1, 30) || !isWithin(what, 0, 1)) {
            return NONE;
        }
        int set = choices.smallestGuard(shop, ruleInForce(), n);
        return what == 0 ? Integer.bitCount(set) : set;
    }

    public int best(int n, int what) {
        if (!shop.isTold() || !isWithin(n, 1, 100) || !isWithin(what, 0, 1)) {
            return NO_SUCH;
        }
        return choices.bestDay(shop, ruleInForce(), n, what);
    }

    public int least(int buyer, int n) {
        if (!shop.hasBuyer(buyer) || !isWithin(n, 1, 60)) {
            return NONE;
        }
        return choices.leastTemper(shop, ruleInForce(), buyer, n);
    }

    public int soothe(int n, int what) {
        if (!shop.isTold() || !isWithin(n, 1, 60) || !isWithin(what, 0, 1)) {
            return NO_SUCH;
        }
        return choices.whomToSoothe(shop, ruleInForce(), n, what);
    }

    public int page(int grains, int what) {
        if (!shop.isTold() || !isWithin(grains, 0, 60) || !isWithin(what, 0, 2)) {
            return NONE;
        }
        return choices.setsOf(shop, grains, what);
    }

    public int fines(int much, int buyer) {
        if (!isWithin(much, 0, 9999) || !shop.hasBuyer(buyer)) {
            return NONE;
        }
        return shop.fineOf(buyer, much);
    }

    public int rests(int one, int other, int n, int what) {
        if (!shop.hasBuyer(one) || !shop.hasBuyer(other) || one == other) {
            return NONE;
        }
        if (!isWithin(n, 1, 30) || !isWithin(what, 0, 2)) {
            return NONE;
        }
        choices.playAll(shop, ruleInForce(), one, other, n);
        return choices.restAnswer(what);
    }

    public int ring(int what) {
        if (!shop.isTold() || !isWithin(what, 0, 1)) {
            return NONE;
        }
        return outlook.firstRing(shop, ruleInForce(), what);
    }

    public int peak(int n, int what) {
        if (!shop.isTold() || !isWithin(n, 1, 100) || !isWithin(what, 0, 1)) {
            return NONE;
        }
        return outlook.highestDay(shop, ruleInForce(), n, what);
    }

    public int note(int n, int buyer, int bought) {
        if (n == NONE) {
            scene.notes.size = 0;
            return 0;
        }
        if (!isWithin(n, 0, Inquiry.LAST_NOTED_DAY) || !shop.hasBuyer(buyer) || !isWithin(bought, 0, 1)) {
            return NO_SUCH;
        }
        return scene.notes.add(n, buyer, bought) ? scene.notes.size : NO_SUCH;
    }

    public int ruled(int what) {
        if (!shop.isTold() || !isWithin(what, 0, 1)) {
            return NOT_ASKED_SO;
        }
        inquiry.weigh(scene, rules, ruleCount);
        return what == 0 ? inquiry.fitting : inquiry.firstFitting();
    }

    public int look(int what) {
        if (!shop.isTold() || !isWithin(what, 0, 1)) {
            return NONE;
        }
        inquiry.weigh(scene, rules, ruleCount);
        return inquiry.dayToLook(what);
    }

    public int seed(int x) {
        if (x < 0) {
            return NONE;
        }
        int was = scene.drawn;
        scene.drawn = x;
        return was;
    }

    public int summers(int m, int n, int p, int what) {
        if (!shop.isTold() || !isWithin(m, 1, 10) || !isWithin(n, 1, 60)) {
            return NONE;
        }
        if (!isWithin(p, 0, 100) || !isWithin(what, 0, 1)) {
            return NONE;
        }
        outlook.drawn = scene.drawn;
        return outlook.drawnSummers(shop, ruleInForce(), m, n, p, what);
    }

    public int count(int what) {
        switch (what) {
            case 0:
                return shop.fill;
            case 1:
                return shop.round;
            case 2:
                return shop.buyers;
            case 3:
                return ruleCount;
            case 4:
                return scene.inForce;
            case 5:
                return shop.day;
            case 6:
                return shop.clockOn(shop.day);
            case 7:
                return shop.shelf;
            case 8:
                return shop.stillOn(shop.day);
            case 9:
                return shop.sold;
            case 10:
                return shop.timesMet();
            case 11:
                return shop.whoCanBuy();
            case 12:
                return scene.notes.size;
            case 13:
                return past.size;
            case 14:
                return scene.drawn;
            case 15:
                return tape.length;
            default:
                return NONE;
        }
    }

    public int image(int k) {
        if (k < 0 || k >= images.length) {
            return NONE;
        }
        Scene made = images[k];
        if (made == null) {
            made = new Scene();
            images[k] = made;
        }
        made.copyFrom(scene);
        return shop.day;
    }

    public int back(int k) {
        if (k < 0 || k >= images.length) {
            return NONE;
        }
        Scene made = images[k];
        if (made == null) {
            return NONE;
        }
        scene.copyFrom(made);
        past.size = 0;
        return shop.day;
    }

    private static boolean isWithin(int number, int least, int most) {
        return number >= least && number <= most;
    }

    /** Null without one. */
    private Rule ruleInForce() {
        int number = scene.inForce;
        return number >= 0 && number < rules.length ? rules[number] : null;
    }

    /** The TAPE, and a walk along it from piece to piece (a NUMBER, a WORD, a sign), up to the first FAULT. */
    private static final class Tape {
        static final int END = -1;
        static final int CANNOT_STAND = 0;
        static final int WRONG_NUMBER = 1;
        static final int TOO_DEEP = 2;
        static final int TOO_LONG = 3;
        static final int WRONG_CLAUSE = 4;
        static final int MOST_DIGITS = 5;

        final int[] bytes = new int[MOST_BYTES];
        int length = 0;
        /** The first byte of the piece that stands next, and the place behind its last one. */
        int at = 0;
        int behind = 0;
        /** That first byte; END behind the last one, and behind a FAULT, so that all reading ends there. */
        int first = END;
        /** 0 without a FAULT. */
        int fault = 0;

        boolean hasRoom() {
            return length + BYTES_FED <= bytes.length;
        }

        void add(int number) {
            for (int shift = 24; shift >= 0; shift -= 8) {
                if (length >= 0 && length < bytes.length) {
                    bytes[length] = number >>> shift & 255;
                    length++;
                }
            }
        }

        private int byteAt(int place) {
            return place >= 0 && place < length && place < bytes.length ? bytes[place] : END;
        }

        void begin() {
            fault = 0;
            behind = 0;
            step();
        }

        void step() {
            at = behind;
            while (at < length && byteAt(at) == ' ') {
                at++;
            }
            behind = at;
            first = fault == 0 ? byteAt(at) : END;
            if (isLetter(first)) {
                while (behind < length && isLetter(byteAt(behind))) {
                    behind++;
                }
            } else if (isDigit(first)) {
                while (behind < length && isDigit(byteAt(behind))) {
                    behind++;
                }
            } else if (first != END) {
                boolean canBeTwo = first == '<' || first == '>';
                behind = canBeTwo && byteAt(at + 1) == '=' ? at + 2 : at + 1;
            }
        }

        private static boolean isLetter(int one) {
            return one >= 'a' && one <= 'z';
        }

        static boolean isDigit(int one) {
            return one >= '0' && one <= '9';
        }

        /** Only the first FAULT counts: of one place the readers tell the least first. */
        void fail(int kind) {
            if (fault == 0) {
                fault = 1 + 8 * at + kind;
                first = END;
            }
        }

        boolean isWord(String word) {
            return isPartOf(word, 0, word.length());
        }

        boolean takesWord(String word) {
            if (!isWord(word)) {
                return false;
            }
            step();
            return true;
        }

        boolean takes(char sign) {
            if (first != sign) {
                return false;
            }
            step();
            return true;
        }

        /** The number, along a list of words with a blank behind each, of the WORD that stands next. */
        int wordAmong(String list) {
            int number = 0;
            int from = 0;
            for (int i = 0; i < list.length(); i++) {
                if (list.charAt(i) == ' ') {
                    if (isPartOf(list, from, i)) {
                        return number;
                    }
                    number++;
                    from = i + 1;
                }
            }
            return NONE;
        }

        private boolean isPartOf(String list, int from, int to) {
            if (fault != 0 || behind - at != to - from || from < 0 || to > list.length()) {
                return false;
            }
            if (at < 0 || behind > bytes.length) {
                return false;
            }
            for (int i = from; i < to; i++) {
                if (bytes[at + i - from] != list.charAt(i)) {
                    return false;
                }
            }
            return true;
        }

        /** The NUMBER that stands next; it is not stepped over yet, so that a FAULT can still be told of its place. */
        int numberHere(int least, int most) {
            if (!isDigit(first)) {
                fail(CANNOT_STAND);
                return least;
            }
            if (behind - at > MOST_DIGITS) {
                fail(WRONG_NUMBER);
                return least;
            }
            int value = 0;
            for (int i = at; i < behind; i++) {
                value = value * 10 + byteAt(i) - '0';
            }
            if (value < least || value > most) {
                fail(WRONG_NUMBER);
                return least;
            }
            return value;
        }

        int takeNumber(int least, int most) {
            int value = numberHere(least, most);
            step();
            return value;
        }

        /** All must have been read. */
        void finish() {
            if (at < length) {
                fail(CANNOT_STAND);
            }
        }
    }

    /** Reads a BOOK from the TAPE. */
    private static final class BookReader {
        static final int MOST_CLAUSES = 40;
        static final int MOST_FILL = 9;
        static final int MOST_GRAINS = 9;
        static final int MOST_WAITS = 9;
        static final String CLAUSES = "book sky buyer watch ";
        static final int BOOK = 0;
        static final int SKY = 1;
        static final int BUYER = 2;

        final Shop shop = new Shop();

        /** The FAULT, 0 without; without one the shop is as the text tells it. */
        int read(Tape tape) {
            shop.clear();
            tape.begin();
            for (int clauses = 0; clauses <= MOST_CLAUSES && (clauses == 0 || tape.takes(';')); clauses++) {
                readClause(tape, clauses);
            }
            tape.finish();
            return tape.fault;
        }

        private void readClause(Tape tape, int clauses) {
            int kind = tape.wordAmong(CLAUSES);
            if (kind == NONE) {
                tape.fail(Tape.CANNOT_STAND);
            } else if (clauses >= MOST_CLAUSES || (kind == BOOK) != (clauses == 0)
                    || kind == BUYER && shop.buyers >= MOST_BUYERS) {
                tape.fail(Tape.WRONG_CLAUSE);
            } else {
                tape.step();
                if (kind == BOOK) {
                    readBook(tape);
                } else if (kind == SKY) {
                    readSky(tape);
                } else if (kind == BUYER) {
                    readBuyer(tape);
                } else {
                    readWatch(tape);
                }
            }
        }

        private void readBook(Tape tape) {
            shop.shelf = tape.takeNumber(0, MOST_SHELF);
            shop.fill = tape.takeNumber(0, MOST_FILL);
            shop.round = tape.takeNumber(1, MOST_ROUND);
        }

        private void readSky(Tape tape) {
            int clock = tape.takeNumber(0, shop.round - 1);
            int still = tape.takeNumber(0, MOST_STILL);
            if (shop.hasClock(clock)) {
                shop.still[clock] = still;
            }
        }

        private void readBuyer(Tape tape) {
            int buyer = shop.buyers;
            if (buyer < 0 || buyer >= MOST_BUYERS) {
                return;
            }
            shop.temper[buyer] = tape.takeNumber(0, MOST_TEMPER);
            shop.grains[buyer] = tape.takeNumber(1, MOST_GRAINS);
            shop.waits[buyer] = tape.takeNumber(0, MOST_WAITS);
            shop.buyers++;
        }

        private void readWatch(Tape tape) {
            int clock = tape.takeNumber(0, shop.round - 1);
            int buyer = tape.takeNumber(0, shop.buyers - 1);
            if (shop.hasClock(clock) && shop.hasBuyer(buyer)) {
                shop.watched[clock] |= 1 << buyer;
            }
        }
    }

    /** Reads a RULE from the TAPE into code that has each operation behind what it is done to. */
    private static final class RuleReader {
        static final int MOST_CLAUSES = 12;
        static final int MOST_DEPTH = 10;
        static final int MOST_COUNTED = 60;
        static final int MOST_VALUE = 99999;

        final int[] code = new int[MOST_BYTES];
        int used = 0;
        /** VALUES, and FACTS made of a SIGN, so far. */
        int counted = 0;

        /** Null, if there is a FAULT; the tape tells it. */
        Rule read(Tape tape) {
            used = 0;
            counted = 0;
            tape.begin();
            for (int clauses = 0; clauses <= MOST_CLAUSES && (clauses == 0 || tape.takes(';')); clauses++) {
                if (!tape.isWord("buy")) {
                    tape.fail(Tape.CANNOT_STAND);
                } else if (clauses == MOST_CLAUSES) {
                    tape.fail(Tape.WRONG_CLAUSE);
                }
                tape.step();
                readSum(tape);
                if (tape.takesWord("if")) {
                    readTest(tape, 0);
                    put(Rule.ANSWER_IF);
                } else {
                    put(Rule.ANSWER);
                }
            }
            tape.finish();
            if (tape.fault != 0 || used < 0 || used > code.length) {
                return null;
            }
            return new Rule(Arrays.copyOf(code, used));
        }

        private void readTest(Tape tape, int depth) {
            readFact(tape, depth);
            boolean orWaits = false;
            for (int i = 0; i < MOST_BYTES && (tape.isWord("and") || tape.isWord("or")); i++) {
                boolean isOr = tape.isWord("or");
                if (isOr && orWaits) {
                    put(Rule.OR);
                }
                tape.step();
                readFact(tape, depth);
                if (isOr) {
                    orWaits = true;
                } else {
                    put(Rule.AND);
                }
            }
            if (orWaits) {
                put(Rule.OR);
            }
        }

        private void readFact(Tape tape, int depth) {
            boolean isNot = tape.isWord("not");
            if ((isNot || tape.first == '[') && depth >= MOST_DEPTH) {
                tape.fail(Tape.TOO_DEEP);
            } else if (isNot) {
                tape.step();
                readFact(tape, depth + 1);
                put(Rule.NOT);
            } else if (tape.takes('[')) {
                readTest(tape, depth + 1);
                if (!tape.takes(']')) {
                    tape.fail(Tape.CANNOT_STAND);
                }
            } else {
                readSum(tape);
                int sign = comparison(tape);
                if (sign == NONE) {
                    tape.fail(Tape.CANNOT_STAND);
                }
                countOne(tape);
                tape.step();
                readSum(tape);
                put(sign);
            }
        }

        /** A + or - waits in the loop until its TERM has been read. */
        private void readSum(Tape tape) {
            readValue(tape);
            int waiting = NONE;
            for (int i = 0; i < MOST_BYTES && arithmetic(tape) != NONE; i++) {
                int sign = arithmetic(tape);
                tape.step();
                if (sign == Rule.PLUS || sign == Rule.MINUS) {
                    if (waiting != NONE) {
                        put(waiting);
                    }
                    waiting = sign;
                    readValue(tape);
                } else {
                    readValue(tape);
                    put(sign);
                }
            }
            if (waiting != NONE) {
                put(waiting);
            }
        }

        private void readValue(Tape tape) {
            int value = 0;
            if (Tape.isDigit(tape.first)) {
                value = tape.numberHere(0, MOST_VALUE);
            } else {
                int word = tape.wordAmong(Rule.WORDS);
                if (word == NONE) {
                    tape.fail(Tape.CANNOT_STAND);
                } else {
                    value = Rule.FIRST_WORD + word;
                }
            }
            countOne(tape);
            put(value);
            tape.step();
        }

        private void countOne(Tape tape) {
            if (counted >= MOST_COUNTED) {
                tape.fail(Tape.TOO_LONG);
            }
            counted++;
        }

        private void put(int operation) {
            if (used >= 0 && used < code.length) {
                code[used] = operation;
                used++;
            }
        }

        private static int arithmetic(Tape tape) {
            switch (tape.first) {
                case '+':
                    return Rule.PLUS;
                case '-':
                    return Rule.MINUS;
                case '*':
                    return Rule.TIMES;
                case '/':
                    return Rule.PARTS;
                case '%':
                    return Rule.REST;
                default:
                    return NONE;
            }
        }

        private static int comparison(Tape tape) {
            boolean orEqual = tape.behind - tape.at == 2;
            switch (tape.first) {
                case '<':
                    return orEqual ? Rule.AT_MOST : Rule.BELOW;
                case '=':
                    return Rule.EQUAL;
                case '>':
                    return orEqual ? Rule.AT_LEAST : Rule.ABOVE;
                default:
                    return NONE;
            }
        }
    }

    /** A RULE: from 0 on a NUMBER, from FIRST_WORD on a WORD, below NONE an operation. */
    private static final class Rule {
        static final String WORDS =
                "buyer temper grains waits still next shelf bought met since sold clock day ";
        static final int FIRST_WORD = 100000;
        static final int ANSWER = -2;
        static final int ANSWER_IF = -3;
        static final int NOT = -4;
        static final int AND = -5;
        static final int OR = -6;
        static final int BELOW = -7;
        static final int AT_MOST = -8;
        static final int EQUAL = -9;
        static final int AT_LEAST = -10;
        static final int ABOVE = -11;
        static final int PLUS = -12;
        static final int MINUS = -13;
        static final int TIMES = -14;
        static final int PARTS = -15;
        static final int REST = -16;
        /** Each depth holds two at most, and a SUM three: far below this. */
        static final int MOST_HELD = 64;

        final int[] code;
        final long[] held = new long[MOST_HELD];

        Rule(int[] code) {
            this.code = code;
        }

        /** The SUM of the first CLAUSE that holds for a BUYER; 0 without. */
        long sumFor(Shop shop, int buyer) {
            int top = 0;
            for (int i = 0; i < code.length; i++) {
                int operation = code[i];
                if (operation >= 0) {
                    if (top < 0 || top >= held.length) {
                        return 0;
                    }
                    held[top] = operation < FIRST_WORD ? operation : shop.wordOf(operation - FIRST_WORD, buyer);
                    top++;
                } else if (operation == ANSWER) {
                    return top >= 1 && top <= held.length ? held[top - 1] : 0;
                } else if (operation == NOT) {
                    if (top >= 1 && top <= held.length) {
                        held[top - 1] = held[top - 1] == 0 ? 1 : 0;
                    }
                } else if (top < 2 || top > held.length) {
                    return 0;
                } else if (operation == ANSWER_IF) {
                    if (held[top - 1] != 0) {
                        return held[top - 2];
                    }
                    top -= 2;
                } else {
                    held[top - 2] = joined(operation, held[top - 2], held[top - 1]);
                    top--;
                }
            }
            return 0;
        }

        private static long joined(int operation, long left, long right) {
            switch (operation) {
                case PLUS:
                    return left + right;
                case MINUS:
                    return left - right;
                case TIMES:
                    return left * right;
                case PARTS:
                    return right == 0 ? 0 : left / right;
                case REST:
                    return right == 0 ? 0 : left % right;
                default:
                    return holds(operation, left, right) ? 1 : 0;
            }
        }

        private static boolean holds(int operation, long left, long right) {
            switch (operation) {
                case AND:
                    return left != 0 && right != 0;
                case OR:
                    return left != 0 || right != 0;
                case BELOW:
                    return left < right;
                case AT_MOST:
                    return left <= right;
                case EQUAL:
                    return left == right;
                case AT_LEAST:
                    return left >= right;
                case ABOVE:
                    return left > right;
                default:
                    return false;
            }
        }
    }

    /** The shop as it is on one DAY, with what the BOOK told; ROUND 0 without a BOOK. */
    private static final class Shop {
        /** DAYS since they bought or were met, if they never did or were. */
        static final int NEVER = 99;
        static final int RESTLESS_STILL = 5;
        static final int CALMING_STILL = 2;
        static final int COMING = 12;
        static final int TEMPER_BY_BUYING = 6;
        static final int WEEK = 7;

        int shelf = 0;
        int fill = 0;
        int round = 0;
        int buyers = 0;
        int day = 0;
        int sold = 0;
        final int[] still = new int[MOST_ROUND];
        /** BUYERS whom the police meet, as bits, by days of the ROUND. */
        final int[] watched = new int[MOST_ROUND];
        final int[] temper = new int[MOST_BUYERS];
        final int[] grains = new int[MOST_BUYERS];
        final int[] waits = new int[MOST_BUYERS];
        final int[] bought = new int[MOST_BUYERS];
        final int[] met = new int[MOST_BUYERS];
        /** The DAY on which they bought or were met last; NONE: never. */
        final int[] last = new int[MOST_BUYERS];

        void clear() {
            shelf = 0;
            fill = 0;
            round = 0;
            buyers = 0;
            day = 0;
            sold = 0;
            for (int clock = 0; clock < MOST_ROUND; clock++) {
                still[clock] = 0;
                watched[clock] = 0;
            }
            for (int b = 0; b < MOST_BUYERS; b++) {
                temper[b] = 0;
                grains[b] = 0;
                waits[b] = 0;
                bought[b] = 0;
                met[b] = 0;
                last[b] = NONE;
            }
        }

        void copyFrom(Shop other) {
            shelf = other.shelf;
            fill = other.fill;
            round = other.round;
            buyers = other.buyers;
            day = other.day;
            sold = other.sold;
            System.arraycopy(other.still, 0, still, 0, MOST_ROUND);
            System.arraycopy(other.watched, 0, watched, 0, MOST_ROUND);
            System.arraycopy(other.temper, 0, temper, 0, MOST_BUYERS);
            System.arraycopy(other.grains, 0, grains, 0, MOST_BUYERS);
            System.arraycopy(other.waits, 0, waits, 0, MOST_BUYERS);
            System.arraycopy(other.bought, 0, bought, 0, MOST_BUYERS);
            System.arraycopy(other.met, 0, met, 0, MOST_BUYERS);
            System.arraycopy(other.last, 0, last, 0, MOST_BUYERS);
        }

        boolean isTold() {
            return round > 0;
        }

        boolean hasBuyer(int buyer) {
            return buyer >= 0 && buyer < buyers && buyer < MOST_BUYERS;
        }

        boolean hasClock(int clock) {
            return clock >= 0 && clock < round && clock < MOST_ROUND;
        }

        int clockOn(int someDay) {
            return round > 0 && someDay >= 0 ? someDay % round : 0;
        }

        int stillOn(int someDay) {
            if (round <= 0 || someDay < 0) {
                return 0;
            }
            int clock = someDay % round;
            return clock < MOST_ROUND ? still[clock] : 0;
        }

        int daysSince(int buyer) {
            return !hasBuyer(buyer) || last[buyer] == NONE ? NEVER : day - last[buyer];
        }

        private boolean canBuy(int buyer) {
            if (!hasBuyer(buyer) || shelf < grains[buyer]) {
                return false;
            }
            return last[buyer] == NONE || day - last[buyer] > waits[buyer];
        }

        int whoCanBuy() {
            int who = 0;
            for (int b = 0; b < buyers && b < MOST_BUYERS; b++) {
                if (canBuy(b)) {
                    who |= 1 << b;
                }
            }
            return who;
        }

        int timesMet() {
            int times = 0;
            for (int b = 0; b < buyers && b < MOST_BUYERS; b++) {
                times += met[b];
            }
            return times;
        }

        /** All BUYERS, as bits. */
        int everybody() {
            return (1 << buyers) - 1;
        }

        long wordOf(int word, int buyer) {
            if (!hasBuyer(buyer)) {
                return 0;
            }
            switch (word) {
                case 0:
                    return buyer;
                case 1:
                    return temper[buyer];
                case 2:
                    return grains[buyer];
                case 3:
                    return waits[buyer];
                case 4:
                    return stillOn(day);
                case 5:
                    return stillOn(day + 1);
                case 6:
                    return shelf;
                case 7:
                    return bought[buyer];
                case 8:
                    return met[buyer];
                case 9:
                    return daysSince(buyer);
                case 10:
                    return sold;
                case 11:
                    return clockOn(day);
                default:
                    return day;
            }
        }

        /** A purchase, by a BUYER for whom there is enough on the SHELF. */
        void handOver(int buyer) {
            if (!hasBuyer(buyer)) {
                return;
            }
            shelf -= grains[buyer];
            temper[buyer] = Math.max(0, temper[buyer] - TEMPER_BY_BUYING);
            bought[buyer] += grains[buyer];
            sold += grains[buyer];
            last[buyer] = day;
        }

        /** A DAY, by a RULE (null: by TEMPER and STILL); who BUYS on it, as bits. */
        int goThroughDay(Rule rule) {
            int stillNow = stillOn(day);
            int clock = clockOn(day);
            int police = hasClock(clock) ? watched[clock] : 0;
            int who = 0;
            for (int b = 0; b < buyers && b < MOST_BUYERS; b++) {
                if (!canBuy(b)) {
                    continue;
                }
                boolean comes = rule == null ? temper[b] + stillNow >= COMING : rule.sumFor(this, b) > 0;
                if (comes && (police >> b & 1) != 0) {
                    met[b]++;
                    last[b] = day;
                } else if (comes) {
                    handOver(b);
                    who |= 1 << b;
                }
            }
            changeTempers(stillNow);
            if (day % WEEK == WEEK - 1) {
                shelf = Math.min(MOST_SHELF, shelf + fill);
            }
            day++;
            return who;
        }

        private void changeTempers(int stillNow) {
            int more = stillNow >= RESTLESS_STILL ? 1 : stillNow <= CALMING_STILL ? -1 : 0;
            for (int b = 0; b < buyers && b < MOST_BUYERS; b++) {
                temper[b] = Math.max(0, Math.min(MOST_TEMPER, temper[b] + more));
            }
        }

        /** GRAINS sold in so many DAYS, which then have gone by. */
        int soldWithin(int days, Rule rule) {
            int soldBefore = sold;
            for (int i = 0; i < days; i++) {
                goThroughDay(rule);
            }
            return sold - soldBefore;
        }

        /** One number for SHELF and all TEMPERS. */
        long likeness() {
            long mark = shelf;
            for (int b = 0; b < buyers && b < MOST_BUYERS; b++) {
                mark = mark * (MOST_TEMPER + 1) + temper[b];
            }
            return mark;
        }

        /** A BUYER's part of the FINES: downwards, and one more if few enough lost more by that. */
        int fineOf(int buyer, int much) {
            if (sold <= 0 || !hasBuyer(buyer)) {
                return 0;
            }
            long left = much;
            int ahead = 0;
            long lost = (long) much * bought[buyer] % sold;
            for (int b = 0; b < buyers && b < MOST_BUYERS; b++) {
                long whole = (long) much * bought[b];
                left -= whole / sold;
                long lostHere = whole % sold;
                if (lostHere > lost || lostHere == lost && b < buyer) {
                    ahead++;
                }
            }
            long part = (long) much * bought[buyer] / sold;
            return (int) (ahead < left ? part + 1 : part);
        }
    }

    /** What was told of who bought on which DAY. */
    private static final class Notes {
        static final int MOST = 10;

        final int[] days = new int[MOST];
        final int[] buyers = new int[MOST];
        final int[] bought = new int[MOST];
        int size = 0;

        boolean add(int day, int buyer, int hasBought) {
            if (size < 0 || size >= MOST) {
                return false;
            }
            days[size] = day;
            buyers[size] = buyer;
            bought[size] = hasBought;
            size++;
            return true;
        }

        void copyFrom(Notes other) {
            System.arraycopy(other.days, 0, days, 0, MOST);
            System.arraycopy(other.buyers, 0, buyers, 0, MOST);
            System.arraycopy(other.bought, 0, bought, 0, MOST);
            size = other.size;
        }
    }

    /** All that an IMAGE keeps: all but the TAPE, the RULES, and what can be UNDONE. */
    private static final class Scene {
        final Shop now = new Shop();
        /** The shop as the text told it. */
        final Shop begin = new Shop();
        final Notes notes = new Notes();
        int inForce = NONE;
        /** The x of the DRAWS. */
        int drawn = 0;

        void copyFrom(Scene other) {
            now.copyFrom(other.now);
            begin.copyFrom(other.begin);
            notes.copyFrom(other.notes);
            inForce = other.inForce;
            drawn = other.drawn;
        }
    }

    /** How the shop was ahead of each of the last ACTS; a row that comes round. */
    private static final class Past {
        static final int MOST = 20;

        final Shop[] shops = new Shop[MOST];
        int next = 0;
        int size = 0;

        void keep(Shop shop) {
            if (next < 0 || next >= MOST) {
                return;
            }
            Shop kept = shops[next];
            if (kept == null) {
                kept = new Shop();
                shops[next] = kept;
            }
            kept.copyFrom(shop);
            next = (next + 1) % MOST;
            size = Math.min(MOST, size + 1);
        }

        /** How many are left; NONE, if there was none. */
        int giveBack(Shop shop) {
            int newest = (next + MOST - 1) % MOST;
            if (size <= 0 || newest < 0) {
                return NONE;
            }
            Shop kept = shops[newest];
            if (kept == null) {
                return NONE;
            }
            shop.copyFrom(kept);
            next = newest;
            size--;
            return size;
        }
    }

    /** How it goes on, on a copy of the shop. */
    private static final class Outlook {
        static final int DAYS_SEARCHED = 200;
        static final int DAYS_OF_RING = 60;
        static final long DRAW_FACTOR = 1103515245L;
        static final long DRAW_ADDED = 12345L;
        static final long DRAW_ROUND = 2147483648L;
        static final long DRAW_PART = 65536L;

        final Shop then = new Shop();
        final long[] marks = new long[DAYS_OF_RING + 1];
        long drawn = 0;

        int aheadOf(Shop shop, Rule rule, int buyer, int n, int what) {
            then.copyFrom(shop);
            then.soldWithin(n, rule);
            if (what == 2) {
                return then.shelf;
            }
            if (!then.hasBuyer(buyer)) {
                return NONE;
            }
            return what == 0 ? then.temper[buyer] : then.bought[buyer];
        }

        int firstPurchase(Shop shop, Rule rule, int buyer) {
            then.copyFrom(shop);
            for (int i = 0; i < DAYS_SEARCHED; i++) {
                if ((then.goThroughDay(rule) >> buyer & 1) != 0) {
                    return shop.day + i;
                }
            }
            return NO_SUCH;
        }

        int firstEmptyShelf(Shop shop, Rule rule) {
            then.copyFrom(shop);
            for (int i = 0; i < DAYS_SEARCHED; i++) {
                if (then.shelf == 0) {
                    return then.day;
                }
                then.goThroughDay(rule);
            }
            return NO_SUCH;
        }

        int weatherFraction(Shop shop, Rule rule, int n, int what) {
            then.copyFrom(shop);
            int all = 0;
            int still = 0;
            for (int i = 0; i < n; i++) {
                boolean isStill = then.stillOn(then.day) >= Shop.RESTLESS_STILL;
                int times = Integer.bitCount(then.goThroughDay(rule));
                all += times;
                still += isStill ? times : 0;
            }
            if (all <= 0) {
                return what;
            }
            int divisor = commonDivisor(all, still);
            return (what == 0 ? still : all) / Math.max(1, divisor);
        }

        /** Of numbers that are not below 0; each turn at least halves one of them, so 64 are plenty. */
        private static int commonDivisor(int one, int other) {
            int high = one;
            int low = other;
            for (int i = 0; i < 64 && low > 0; i++) {
                int rest = high % low;
                high = low;
                low = rest;
            }
            return high;
        }

        int firstRing(Shop shop, Rule rule, int what) {
            then.copyFrom(shop);
            for (int i = 0; i < marks.length; i++) {
                marks[i] = then.likeness();
                then.goThroughDay(rule);
            }
            for (int i = 0; i < marks.length; i++) {
                for (int later = i + 1; later < marks.length; later++) {
                    if (marks[i] == marks[later]) {
                        return what == 0 ? shop.day + i : later - i;
                    }
                }
            }
            return NO_SUCH;
        }

        int highestDay(Shop shop, Rule rule, int n, int what) {
            then.copyFrom(shop);
            int peakDay = then.day;
            int most = 0;
            for (int i = 0; i < n; i++) {
                int sold = then.soldWithin(1, rule);
                if (sold > most) {
                    most = sold;
                    peakDay = shop.day + i;
                }
            }
            return what == 0 ? peakDay : most;
        }

        int drawnSummers(Shop shop, Rule rule, int m, int n, int p, int what) {
            int sold = 0;
            int shelves = 0;
            for (int time = 0; time < m; time++) {
                then.copyFrom(shop);
                for (int i = 0; i < n; i++) {
                    drawSky(p);
                    sold += then.soldWithin(1, rule);
                }
                shelves += then.shelf;
            }
            return what == 0 ? sold : shelves;
        }

        private void drawSky(int p) {
            if (draw() % 100 >= p) {
                return;
            }
            int still = (int) (draw() % 10);
            int clock = then.clockOn(then.day);
            if (then.hasClock(clock)) {
                then.still[clock] = still;
            }
        }

        private long draw() {
            drawn = (drawn * DRAW_FACTOR + DRAW_ADDED) % DRAW_ROUND;
            return drawn / DRAW_PART;
        }
    }

    /** What had best be done, tried out on a copy of the shop. */
    private static final class Choices {
        /** GRAINS that each of two can choose: 1, 3, 5, 7, 9. */
        static final int SIZES = 5;
        static final int LOST_BY_MEETING = 4;

        final Shop then = new Shop();
        /** What each of two has, by the choice of the one, then of the other. */
        final int[] oneHas = new int[SIZES * SIZES];
        final int[] otherHas = new int[SIZES * SIZES];

        /**
         * Ahead of the first purchase all who came were met, so guarding more would have changed nothing until then:
         * every set by which nobody BUYS has that day of the ROUND. Taking these in one by one leads to the fewest.
         */
        int smallestGuard(Shop shop, Rule rule, int n) {
            int guarded = 0;
            for (int turn = 0; turn < MOST_ROUND; turn++) {
                int open = clockOfPurchase(shop, rule, n, guarded);
                if (open == NONE) {
                    return guarded;
                }
                guarded |= 1 << open;
            }
            return guarded;
        }

        /** The day of the ROUND on which anybody BUYS first, by a guard; NONE, if nobody does. */
        private int clockOfPurchase(Shop shop, Rule rule, int n, int guarded) {
            then.copyFrom(shop);
            for (int clock = 0; clock < MOST_ROUND; clock++) {
                if ((guarded >> clock & 1) != 0) {
                    then.watched[clock] = then.everybody();
                }
            }
            for (int i = 0; i < n; i++) {
                if (then.goThroughDay(rule) != 0) {
                    return shop.clockOn(shop.day + i);
                }
            }
            return NONE;
        }

        int bestDay(Shop shop, Rule rule, int n, int what) {
            then.copyFrom(shop);
            int fewest = then.soldWithin(n, rule);
            int best = NONE;
            for (int clock = 0; clock < shop.round && clock < MOST_ROUND; clock++) {
                then.copyFrom(shop);
                then.watched[clock] = then.everybody();
                int sold = then.soldWithin(n, rule);
                if (sold < fewest) {
                    fewest = sold;
                    best = clock;
                }
            }
            return what == 0 ? best : fewest;
        }

        int leastTemper(Shop shop, Rule rule, int buyer, int n) {
            for (int temper = 0; temper <= MOST_TEMPER; temper++) {
                then.copyFrom(shop);
                if (then.hasBuyer(buyer)) {
                    then.temper[buyer] = temper;
                }
                for (int i = 0; i < n; i++) {
                    if ((then.goThroughDay(rule) >> buyer & 1) != 0) {
                        return temper;
                    }
                }
            }
            return NO_SUCH;
        }

        int whomToSoothe(Shop shop, Rule rule, int n, int what) {
            then.copyFrom(shop);
            int fewest = then.soldWithin(n, rule);
            int best = NONE;
            for (int b = 0; b < shop.buyers && b < MOST_BUYERS; b++) {
                then.copyFrom(shop);
                then.temper[b] = 0;
                int sold = then.soldWithin(n, rule);
                if (sold < fewest) {
                    fewest = sold;
                    best = b;
                }
            }
            return what == 0 ? best : fewest;
        }

        int setsOf(Shop shop, int grains, int what) {
            int sets = 0;
            int first = NO_SUCH;
            int inAll = shop.everybody();
            for (int set = 0; set <= shop.everybody(); set++) {
                if (grainsOf(shop, set) == grains) {
                    first = sets == 0 ? set : first;
                    inAll &= set;
                    sets++;
                }
            }
            if (what == 0) {
                return sets;
            }
            if (what == 1) {
                return first;
            }
            return sets == 0 ? 0 : inAll;
        }

        private static int grainsOf(Shop shop, int set) {
            int sum = 0;
            for (int b = 0; b < shop.buyers && b < MOST_BUYERS; b++) {
                sum += (set >> b & 1) * shop.grains[b];
            }
            return sum;
        }

        void playAll(Shop shop, Rule rule, int one, int other, int n) {
            if (!shop.hasBuyer(one) || !shop.hasBuyer(other)) {
                return;
            }
            for (int pair = 0; pair < SIZES * SIZES; pair++) {
                then.copyFrom(shop);
                then.grains[one] = sizeOf(pair / SIZES);
                then.grains[other] = sizeOf(pair % SIZES);
                then.soldWithin(n, rule);
                oneHas[pair] = gain(shop, one);
                otherHas[pair] = gain(shop, other);
            }
        }

        private static int sizeOf(int choice) {
            return 2 * choice + 1;
        }

        private int gain(Shop shop, int buyer) {
            if (!shop.hasBuyer(buyer)) {
                return 0;
            }
            int bought = then.bought[buyer] - shop.bought[buyer];
            return bought - LOST_BY_MEETING * (then.met[buyer] - shop.met[buyer]);
        }

        int restAnswer(int what) {
            int rests = 0;
            int first = NONE;
            for (int pair = 0; pair < SIZES * SIZES; pair++) {
                if (isRest(pair)) {
                    first = rests == 0 ? pair : first;
                    rests++;
                }
            }
            if (what == 0) {
                return rests;
            }
            if (rests == 0) {
                return NO_SUCH;
            }
            return sizeOf(what == 1 ? first / SIZES : first % SIZES);
        }

        private boolean isRest(int pair) {
            if (pair < 0 || pair >= SIZES * SIZES) {
                return false;
            }
            int ones = pair / SIZES;
            int others = pair % SIZES;
            for (int choice = 0; choice < SIZES; choice++) {
                if (oneHas[choice * SIZES + others] > oneHas[pair]
                        || otherHas[ones * SIZES + choice] > otherHas[pair]) {
                    return false;
                }
            }
            return true;
        }
    }

    /** By which of the RULES, or of none, the NOTES can be; candidate 0 is none, candidate r + 1 RULE r. */
    private static final class Inquiry {
        static final int LAST_NOTED_DAY = 60;
        static final int DAYS = LAST_NOTED_DAY + 1;
        static final int MOST = MOST_RULES + 1;

        final Shop then = new Shop();
        /** Who buys, as bits, by candidates, then by DAYS. */
        final int[] who = new int[MOST * DAYS];
        final boolean[] fits = new boolean[MOST];
        int fitting = 0;

        void weigh(Scene scene, Rule[] rules, int ruleCount) {
            fitting = 0;
            for (int candidate = 0; candidate < MOST; candidate++) {
                fits[candidate] = false;
                if (candidate <= ruleCount && candidate <= rules.length) {
                    Rule rule = candidate == 0 ? null : rules[candidate - 1];
                    then.copyFrom(scene.begin);
                    for (int day = 0; day < DAYS; day++) {
                        who[candidate * DAYS + day] = then.goThroughDay(rule);
                    }
                    fits[candidate] = agrees(candidate, scene.notes);
                    fitting += fits[candidate] ? 1 : 0;
                }
            }
        }

        private boolean agrees(int candidate, Notes notes) {
            for (int i = 0; i < notes.size && i < Notes.MOST; i++) {
                if ((whoOn(candidate, notes.days[i]) >> notes.buyers[i] & 1) != notes.bought[i]) {
                    return false;
                }
            }
            return true;
        }

        private int whoOn(int candidate, int day) {
            int place = candidate * DAYS + day;
            return place >= 0 && place < who.length ? who[place] : 0;
        }

        /** The number of the RULE: NONE is none. */
        int firstFitting() {
            for (int candidate = 0; candidate < MOST; candidate++) {
                if (fits[candidate]) {
                    return candidate - 1;
                }
            }
            return NO_SUCH;
        }

        int dayToLook(int what) {
            if (fitting == 0) {
                return NO_SUCH;
            }
            int best = 0;
            int fewest = MOST + 1;
            for (int day = 0; day < DAYS; day++) {
                int alike = mostAlike(day);
                if (alike < fewest) {
                    fewest = alike;
                    best = day;
                }
            }
            return what == 0 ? best : fewest;
        }

        private int mostAlike(int day) {
            int most = 0;
            for (int one = 0; one < MOST; one++) {
                int alike = 0;
                for (int other = 0; other < MOST; other++) {
                    if (fits[one] && fits[other] && whoOn(one, day) == whoOn(other, day)) {
                        alike++;
                    }
                }
                most = Math.max(most, alike);
            }
            return most;
        }
    }
}
