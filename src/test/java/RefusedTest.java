import java.util.function.Supplier;
import java.util.function.ToIntFunction;

/**
 * Each refusal that a promise names: what is answered then, and that nothing changes by it; and, by twins, that nothing
 * changes by what is asked. What was done, what can be UNDONE, NOTES, IMAGES and the TAPE are all looked at.
 */
public final class RefusedTest {
    private static final int NONE = PoisonBook.NONE;
    private static final int MIN = Integer.MIN_VALUE;
    private static final int MAX = Integer.MAX_VALUE;
    private static final int[] NO_BUYERS = {-1, 3, 4, 5, 6, MIN, MAX};
    private static final int[] NO_CLOCKS = {-1, 3, 9, 10, MIN, MAX};

    private final Checks c = new Checks();
    private final Twins twins = new Twins(c);

    private interface Call {
        int of(PoisonBook x, int number);
    }

    private void refused(String call, ToIntFunction<PoisonBook> answer, int want) {
        twins.same(call, Twins::rich, answer, want);
    }

    private void refused(String call, Call answer, int want, int... numbers) {
        for (int number : numbers) {
            twins.same(call + " with " + number, Twins::rich, x -> answer.of(x, number), want);
        }
    }

    private void withoutBook(String call, ToIntFunction<PoisonBook> answer, int want) {
        twins.same(call + " without a BOOK", Twins::withoutBook, answer, want);
        twins.same(call + " of a new object", PoisonBook::new, answer, want);
    }

    private void asked(String call, ToIntFunction<PoisonBook> answer) {
        twins.asked(call, Twins::rich, answer);
        twins.asked(call, Twins::withoutBook, answer);
    }

    private static Supplier<PoisonBook> withBytes(int bytes) {
        return () -> {
            PoisonBook x = Twins.rich();
            Checks.tape(x, " ".repeat(bytes));
            return x;
        };
    }

    /** Promise 2: "NONE, and none comes, if it would have more than 400". */
    private void feed() {
        for (int bytes : new int[] {379, 380}) {
            twins.other("feed behind " + bytes, withBytes(bytes), x -> x.feed(0, 0, 0, 0, 0), bytes + 20);
        }
        for (int bytes : new int[] {381, 382, 399, 400}) {
            twins.same("feed behind " + bytes, withBytes(bytes), x -> x.feed(0, 0, 0, 0, 0), NONE);
        }
        PoisonBook x = new PoisonBook();
        for (int bytes = 20; bytes <= 400; bytes += 20) {
            c.due("feed", x.feed(MIN, MAX, -1, 0, 1), bytes);
        }
        c.due("feed", x.feed(MIN, MAX, -1, 0, 1), NONE);
    }

    /** Promise 2: "Twenty bytes come behind the TAPE, of each number the highest first". */
    private void feedOrder() {
        String text = "book 12 3 4;sky 3 5 ";
        for (int i = 0; i < 20; i++) {
            PoisonBook x = new PoisonBook();
            int[] n = Checks.numbers(text, 0);
            n[i / 4] = n[i / 4] & ~(255 << 24 - i % 4 * 8) | '!' << 24 - i % 4 * 8;
            x.feed(n[0], n[1], n[2], n[3], n[4]);
            int first = i < 4 ? 0 : i > 11 && i < 15 ? 12 : i;
            c.due("byte " + i, x.book(), Checks.fault(first, 0));
        }
        PoisonBook x = new PoisonBook();
        c.due("whole", Checks.book(x, text), 0);
        c.due("SHELF", x.count(7), 12);
        x.feed(0x80818283, 0, 0, 0, 0);
        c.due("a byte above 127", x.book(), Checks.fault(0, 0));
    }

    /** Promise 3: "NONE, and nothing happens, if it has not so many, or n is below 0". */
    private void end() {
        int bytes = Twins.rich().count(15);
        refused("end", (x, n) -> x.end(n), NONE, bytes + 1, bytes + 2, 400, 401, MAX, -1, -2, MIN);
        for (int n = 0; n < bytes; n++) {
            int left = n;
            twins.other("end at " + n, Twins::rich, x -> x.end(left), n);
        }
        twins.same("end at all", Twins::rich, x -> x.end(bytes), bytes);
        c.due("end of none", new PoisonBook().end(0), 0);
        c.due("end of none", new PoisonBook().end(1), NONE);
    }

    /** What book() or rule() answers for a TAPE, which is empty then. */
    private static int told(PoisonBook x, String text, boolean isBook) {
        Checks.tape(x, text);
        return isBook ? x.book() : x.rule();
    }

    private static Supplier<PoisonBook> emptyTape(Supplier<PoisonBook> made) {
        return () -> {
            PoisonBook x = made.get();
            x.end(0);
            return x;
        };
    }

    /** Promise 4: "-2 - its FAULT, and all stays"; promise 5: "-2 - its FAULT". */
    private void faults() {
        String[] books = {"", "book", "book 1 1 1;", "sky 0 0", "book 1 1 1;sky 1 0", "book 1 1 1;buyer 0 0 0"};
        int[] bookFaults = {0, 32, 88, 4, 121, 153};
        for (int i = 0; i < books.length; i++) {
            String text = books[i];
            int want = -3 - bookFaults[i];
            twins.same("book: " + text, emptyTape(Twins::rich), x -> told(x, text, true), want);
            twins.same("book: " + text, emptyTape(Twins::withoutBook), x -> told(x, text, true), want);
        }
        String[] rules = {"", "buy", "buy 1;", "buy 123456", "buy 1 if [", "book 1 1 1"};
        int[] ruleFaults = {0, 24, 48, 33, 80, 0};
        for (int i = 0; i < rules.length; i++) {
            String text = rules[i];
            int want = -3 - ruleFaults[i];
            twins.same("rule: " + text, emptyTape(Twins::rich), x -> told(x, text, false), want);
        }
    }

    /** Promise 4: "in place of the one there was (no NOTES, nothing to be UNDONE; the RULE IN FORCE and x stay)". */
    private void book() {
        PoisonBook x = Twins.rich();
        c.due("NOTES ahead", x.count(12), 2);
        c.due("ACTS ahead", x.count(13), 6);
        c.due("BUYERS", told(x, "book 1 2 1;buyer 0 1 0", true), 1);
        c.due("the TAPE is empty then", x.count(15), 0);
        c.due("no NOTES", x.count(12), 0);
        c.due("nothing to be UNDONE", x.count(13), 0);
        c.due("nothing to be UNDONE", x.undo(), NONE);
        c.due("the RULE IN FORCE stays", x.count(4), 1);
        c.due("x stays", x.count(14), 4711);
        c.due("RULES stay", x.count(3), 2);
        c.due("no day of the ROUND more", x.sky(1, 0), NONE);
        c.due("no BUYER more", x.buyer(1, 0), NONE);
        c.due("IMAGES stay", x.back(1), 1);
        c.due("and what they had", x.count(2), 3);
    }

    private static PoisonBook sixRules() {
        PoisonBook x = Twins.rich();
        int bytes = x.count(15);
        for (int r = 2; r < 6; r++) {
            Checks.rule(x, "buy " + r);
        }
        Checks.tape(x, "buy 1" + " ".repeat(bytes - 5));
        return x;
    }

    /** Promise 5: "NONE, and nothing happens: there are 6". */
    private void rule() {
        c.due("there are 6", sixRules().count(3), 6);
        twins.same("a seventh", RefusedTest::sixRules, x -> x.rule(), NONE);
        twins.same("a seventh, twice", RefusedTest::sixRules, x -> x.rule() + x.rule(), 2 * NONE);
        PoisonBook x = sixRules();
        x.rule();
        c.due("the TAPE stays", x.count(15), Twins.rich().count(15));
        PoisonBook y = sixRules();
        told(y, "buy 1 if", false);
        c.due("a FAULT or not", y.count(15), 8);
    }

    /** Promise 6: "-2, and nothing happens, if there is none such". */
    private void force() {
        refused("force", (x, r) -> x.force(r), -2, 2, 3, 5, 6, -2, -3, MIN, MAX);
        twins.other("force NONE", Twins::rich, x -> x.force(NONE), 1);
        twins.other("force 0", Twins::rich, x -> x.force(0), 1);
        twins.same("force 1, as it was", Twins::rich, x -> x.force(1), 1);
        twins.same("force of a new object", PoisonBook::new, x -> x.force(0), -2);
        twins.same("force NONE of a new object", PoisonBook::new, x -> x.force(NONE), NONE);
        twins.same("force 5 of six, then 6", RefusedTest::sixRules, x -> x.force(6), -2);
        twins.other("force 5 of six", RefusedTest::sixRules, x -> x.force(5), 1);
    }

    /** Promises 7 and 8: "NONE without these." */
    private void buyerAndSky() {
        for (int what = -1; what <= 6; what++) {
            int asked = what;
            for (int buyer : NO_BUYERS) {
                refused("buyer " + buyer + ", what " + what, x -> x.buyer(buyer, asked), NONE);
            }
            for (int clock : NO_CLOCKS) {
                refused("sky " + clock + ", what " + what, x -> x.sky(clock, asked), NONE);
            }
            withoutBook("buyer", x -> x.buyer(0, asked), NONE);
            withoutBook("sky", x -> x.sky(0, asked), NONE);
        }
        for (int b = 0; b < 3; b++) {
            int one = b;
            refused("buyer " + b + ", what", (x, what) -> x.buyer(one, what), NONE, -1, 6, 7, MIN, MAX);
            refused("sky " + b + ", what", (x, what) -> x.sky(one, what), NONE, -1, 2, 3, MIN, MAX);
            asked("buyer", x -> x.buyer(one, 0));
            asked("sky", x -> x.sky(one, 1));
        }
    }

    /** Promises 9 to 13: "NONE, and nothing happens, without these". */
    private void acts() {
        withoutBook("day", x -> x.day(), NONE);
        withoutBook("sell", x -> x.sell(0), NONE);
        withoutBook("calm", x -> x.calm(0, 1), NONE);
        withoutBook("watch", x -> x.watch(0, 0), NONE);
        withoutBook("change", x -> x.change(0, 1), NONE);
        refused("sell", (x, b) -> x.sell(b), NONE, NO_BUYERS);
        refused("calm who", (x, b) -> x.calm(b, 1), NONE, NO_BUYERS);
        refused("watch who", (x, b) -> x.watch(0, b), NONE, NO_BUYERS);
        refused("watch when", (x, clock) -> x.watch(clock, 0), NONE, NO_CLOCKS);
        refused("change when", (x, clock) -> x.change(clock, 1), NONE, NO_CLOCKS);
        refused("change to", (x, still) -> x.change(0, still), NONE, -1, 10, 11, MIN, MAX);
        for (int b = 0; b < 3; b++) {
            int temper = Twins.rich().buyer(b, 0);
            int one = b;
            refused("calm " + b, (x, much) -> x.calm(one, much), NONE, 0, -1, temper + 1, 20, 21, MIN, MAX);
            if (temper > 0) {
                twins.other("calm " + b, Twins::rich, x -> x.calm(one, temper), 0);
            }
            int still = Twins.rich().sky(b, 0);
            refused("change " + b + " to the same", x -> x.change(one, still), NONE);
            twins.other("change " + b, Twins::rich, x -> x.change(one, (still + 1) % 10), still);
        }
    }

    /** Promise 10: SHELF is less than GRAINS. */
    private void sellTooMuch() {
        Supplier<PoisonBook> few = () -> {
            PoisonBook x = Twins.rich();
            while (x.count(7) >= 3) {
                x.sell(0);
            }
            return x;
        };
        int left = few.get().count(7);
        c.holds("less than 3 are left", left < 3);
        twins.same("sell 3", few, x -> x.sell(0), NONE);
        twins.same("sell 4", few, x -> x.sell(1), NONE);
        if (left == 2) {
            twins.other("sell 2", few, x -> x.sell(2), 0);
        }
    }

    /** Promise 14: "NONE, and nothing happens: none can". */
    private void undo() {
        withoutBook("undo", x -> x.undo(), NONE);
        twins.same("undo, none can", () -> {
            PoisonBook x = Twins.rich();
            for (int i = 0; i < 6; i++) {
                x.undo();
            }
            return x;
        }, x -> x.undo(), NONE);
        twins.same("an ACT that is UNDONE", Twins::rich, x -> 0 * x.day() + x.undo(), 6);
        twins.same("SELL that is UNDONE", Twins::rich, x -> 0 * x.sell(0) + x.undo(), 6);
        twins.same("CALM that is UNDONE", Twins::rich, x -> 0 * x.calm(2, 1) + x.undo(), 6);
        twins.same("WATCH that is UNDONE", Twins::rich, x -> 0 * x.watch(1, 1) + x.undo(), 6);
        twins.same("SKY that is UNDONE", Twins::rich, x -> 0 * x.change(1, 9) + x.undo(), 6);
    }

    /** Only ACTS can be UNDONE: a RULE, the one IN FORCE, x, NOTES, IMAGES and the TAPE stay. */
    private void undoneAlone() {
        PoisonBook x = Twins.rich();
        int acts = x.count(13);
        x.day();
        x.force(0);
        x.seed(9);
        x.note(7, 0, 0);
        x.image(0);
        Checks.rule(x, "buy 3");
        x.feed(0, 0, 0, 0, 0);
        c.due("the DAY is UNDONE", x.undo(), acts);
        c.due("DAY", x.count(5), 2);
        c.due("the RULE IN FORCE", x.count(4), 0);
        c.due("x", x.count(14), 9);
        c.due("NOTES", x.count(12), 3);
        c.due("RULES", x.count(3), 3);
        c.due("the TAPE", x.count(15), 20);
        c.due("IMAGES", x.back(0), 3);
    }

    /** A number just outside a range, or far outside, is refused; the least and the most are not. */
    private void outside(String call, Call answer, int want, int least, int most) {
        refused(call, answer, want, least - 1, least - 2, most + 1, most + 2, MIN, MAX);
        for (int number : new int[] {least, most}) {
            twins.asked(call + " with " + number, Twins::rich, x -> answer.of(x, number));
            c.holds(call + " with " + number + " is not refused", answer.of(Twins.rich(), number) != want);
        }
    }

    /** Promises 15 to 18: "NONE without these, or a BOOK", "NONE without that BUYER", "NONE without a BOOK". */
    private void aheadToTells() {
        outside("ahead n, TEMPER", (x, n) -> x.ahead(0, n, 0), NONE, 0, 100);
        outside("ahead n, GRAINS", (x, n) -> x.ahead(1, n, 1), NONE, 0, 100);
        outside("ahead n, SHELF", (x, n) -> x.ahead(-1, n, 2), NONE, 0, 100);
        outside("ahead what", (x, what) -> x.ahead(0, 1, what), NONE, 0, 2);
        outside("buys who", (x, b) -> x.buys(b), NONE, 0, 2);
        outside("tells n", (x, n) -> x.tells(n, 1), NONE, 1, 100);
        outside("tells what", (x, what) -> x.tells(9, what), NONE, 0, 1);
        refused("ahead who, TEMPER", (x, b) -> x.ahead(b, 1, 0), NONE, NO_BUYERS);
        refused("ahead who, GRAINS", (x, b) -> x.ahead(b, 1, 1), NONE, NO_BUYERS);
        for (int what = 0; what < 3; what++) {
            int asked = what;
            withoutBook("ahead", x -> x.ahead(0, 0, asked), NONE);
            withoutBook("tells", x -> x.tells(1, asked), NONE);
        }
        withoutBook("buys", x -> x.buys(0), NONE);
        withoutBook("empty", x -> x.empty(), NONE);
        asked("empty", x -> x.empty());
    }

    /** Promises 19 to 22: -2 where NONE is an answer. */
    private void guardToSoothe() {
        outside("guard n", (x, n) -> x.guard(n, 0), NONE, 1, 30);
        outside("guard n, the set", (x, n) -> x.guard(n, 1), NONE, 1, 30);
        outside("guard what", (x, what) -> x.guard(9, what), NONE, 0, 1);
        outside("best n", (x, n) -> x.best(n, 0), -2, 1, 100);
        outside("best n, how many", (x, n) -> x.best(n, 1), -2, 1, 100);
        outside("best what", (x, what) -> x.best(9, what), -2, 0, 1);
        outside("least n", (x, n) -> x.least(0, n), NONE, 1, 60);
        outside("least who", (x, b) -> x.least(b, 9), NONE, 0, 2);
        outside("soothe n", (x, n) -> x.soothe(n, 0), -2, 1, 60);
        outside("soothe n, how many", (x, n) -> x.soothe(n, 1), -2, 1, 60);
        outside("soothe what", (x, what) -> x.soothe(9, what), -2, 0, 1);
        for (int what = 0; what < 2; what++) {
            int asked = what;
            withoutBook("guard", x -> x.guard(1, asked), NONE);
            withoutBook("best", x -> x.best(1, asked), -2);
            withoutBook("soothe", x -> x.soothe(1, asked), -2);
        }
        withoutBook("least", x -> x.least(0, 1), NONE);
    }

    /** Promises 23 to 27. */
    private void pageToPeak() {
        outside("page grains", (x, grains) -> x.page(grains, 0), NONE, 0, 60);
        outside("page grains, the least", (x, grains) -> x.page(grains, 1), NONE, 0, 60);
        outside("page what", (x, what) -> x.page(3, what), NONE, 0, 2);
        outside("fines much", (x, much) -> x.fines(much, 2), NONE, 0, 9999);
        outside("fines who", (x, b) -> x.fines(99, b), NONE, 0, 2);
        outside("rests n", (x, n) -> x.rests(0, 1, n, 0), NONE, 1, 30);
        outside("rests what", (x, what) -> x.rests(0, 1, 9, what), NONE, 0, 2);
        refused("rests one", (x, b) -> x.rests(b, 1, 9, 0), NONE, NO_BUYERS);
        refused("rests other", (x, b) -> x.rests(1, b, 9, 0), NONE, NO_BUYERS);
        refused("rests, not unlike", (x, b) -> x.rests(b, b, 9, 0), NONE, 0, 1, 2, 3, -1);
        outside("ring what", (x, what) -> x.ring(what), NONE, 0, 1);
        outside("peak n", (x, n) -> x.peak(n, 0), NONE, 1, 100);
        outside("peak n, how many", (x, n) -> x.peak(n, 1), NONE, 1, 100);
        outside("peak what", (x, what) -> x.peak(9, what), NONE, 0, 1);
        for (int what = 0; what < 3; what++) {
            int asked = what;
            withoutBook("page", x -> x.page(0, asked), NONE);
            withoutBook("rests", x -> x.rests(0, 1, 1, asked), NONE);
            withoutBook("ring", x -> x.ring(asked), NONE);
            withoutBook("peak", x -> x.peak(1, asked), NONE);
        }
        withoutBook("fines", x -> x.fines(0, 0), NONE);
    }

    private static PoisonBook tenNotes() {
        PoisonBook x = Twins.rich();
        for (int i = 0; i < 8; i++) {
            x.note(50, 0, 0);
        }
        return x;
    }

    /** Promises 28 to 30: "-2, and nothing happens, without these, or if there are 10"; "-3 for others". */
    private void notes() {
        refused("note n", (x, n) -> x.note(n, 0, 0), -2, -2, -3, 61, 62, MIN, MAX);
        refused("note who", (x, b) -> x.note(1, b, 0), -2, NO_BUYERS);
        refused("note bought", (x, bought) -> x.note(1, 0, bought), -2, -1, 2, MIN, MAX);
        for (int n : new int[] {0, 60}) {
            twins.other("note " + n, Twins::rich, x -> x.note(n, 0, 1), 3);
        }
        twins.other("no notes", Twins::rich, x -> x.note(NONE, 0, 0), 0);
        twins.same("an eleventh", RefusedTest::tenNotes, x -> x.note(0, 0, 1), -2);
        c.due("ten", tenNotes().count(12), 10);
        outside("ruled what", (x, what) -> x.ruled(what), -3, 0, 1);
        outside("look what", (x, what) -> x.look(what), NONE, 0, 1);
        withoutBook("note", x -> x.note(0, 0, 0), -2);
        withoutBook("note NONE", x -> x.note(NONE, 0, 0), 0);
        for (int what = -1; what < 3; what++) {
            int asked = what;
            withoutBook("ruled", x -> x.ruled(asked), -3);
            withoutBook("look", x -> x.look(asked), NONE);
        }
    }

    /** Promises 31 to 35. */
    private void seedToBack() {
        refused("seed", (x, number) -> x.seed(number), NONE, -1, -2, MIN);
        twins.other("seed 0", Twins::rich, x -> x.seed(0), 4711);
        twins.other("seed the most", Twins::rich, x -> x.seed(MAX), 4711);
        outside("summers m", (x, m) -> x.summers(m, 2, 50, 0), NONE, 1, 10);
        outside("summers n", (x, n) -> x.summers(2, n, 50, 0), NONE, 1, 60);
        outside("summers p", (x, p) -> x.summers(2, 2, p, 0), NONE, 0, 100);
        outside("summers what", (x, what) -> x.summers(2, 2, 50, what), NONE, 0, 1);
        withoutBook("summers", x -> x.summers(1, 1, 1, 0), NONE);
        refused("count", (x, what) -> x.count(what), NONE, -1, -2, 16, 17, MIN, MAX);
        for (int what = 0; what < 16; what++) {
            int asked = what;
            asked("count " + what, x -> x.count(asked));
        }
        refused("image", (x, k) -> x.image(k), NONE, -1, 4, 5, MIN, MAX);
        refused("back", (x, k) -> x.back(k), NONE, -1, 4, 5, MIN, MAX);
        refused("back, never made", (x, k) -> x.back(k), NONE, 0, 2);
        for (int k = 0; k < 4; k++) {
            int one = k;
            twins.other("image " + k, Twins::rich, x -> x.image(one), 2);
            twins.same("back of a new object", PoisonBook::new, x -> x.back(one), NONE);
        }
        twins.other("back", Twins::rich, x -> x.back(1), 1);
        twins.other("back", Twins::rich, x -> x.back(3), 0);
    }

    /** Promise 1: "No BOOK, no RULES, none IN FORCE." */
    private void newObject() {
        for (int what = 0; what < 16; what++) {
            c.due("count " + what, new PoisonBook().count(what), what == 4 ? NONE : 0);
        }
        c.due("no RULE", new PoisonBook().force(0), -2);
        c.due("none IN FORCE", new PoisonBook().force(NONE), NONE);
        for (int k = 0; k < 4; k++) {
            c.due("no IMAGE", new PoisonBook().back(k), NONE);
        }
    }

    public static void main(String[] args) {
        RefusedTest t = new RefusedTest();
        t.newObject();
        t.feed();
        t.feedOrder();
        t.end();
        t.faults();
        t.book();
        t.rule();
        t.force();
        t.buyerAndSky();
        t.acts();
        t.sellTooMuch();
        t.undo();
        t.undoneAlone();
        t.aheadToTells();
        t.guardToSoothe();
        t.pageToPeak();
        t.notes();
        t.seedToBack();
        t.c.close("RefusedTest");
    }
}
