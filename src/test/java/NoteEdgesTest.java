/**
 * The bounds of NOTES, DRAWS and IMAGES, and of what is asked by them, sentence by sentence of the document's third part,
 * on both sides.
 */
public final class NoteEdgesTest {
    private static final int NONE = PoisonBook.NONE;
    private static final int MIN = Integer.MIN_VALUE;
    private static final int MAX = Integer.MAX_VALUE;
    private static final String ONE = "book 99 0 1;buyer 0 1 0";

    private final Checks c = new Checks();

    private static PoisonBook told(String book, String... rules) {
        PoisonBook x = Checks.told(book);
        for (String rule : rules) {
            Checks.rule(x, rule);
        }
        return x;
    }

    /** By RULE r the BUYER buys on DAY r alone; by none never. */
    private static PoisonBook withRules(int rules) {
        PoisonBook x = told(ONE);
        for (int r = 0; r < rules; r++) {
            Checks.rule(x, "buy 1 if day = " + r);
        }
        return x;
    }

    /** "on the n-th DAY of all (0 to 60) a BUYER bought (1), or did not (0)". */
    private void notesTold() {
        String two = ONE + ";buyer 0 1 0";
        for (int n = 0; n <= 60; n++) {
            c.due("on DAY " + n, told(two).note(n, 1, n % 2), 1);
        }
        for (int n : new int[] {-2, 61, 62, MIN, MAX}) {
            c.due("on DAY " + n, told(two).note(n, 0, 0), -2);
        }
        for (int buyer : new int[] {-1, 2, 5, 6, MIN, MAX}) {
            c.due("of BUYER " + buyer, told(two).note(0, buyer, 0), -2);
        }
        for (int bought : new int[] {-1, 2, MIN, MAX}) {
            c.due("bought " + bought, told(two).note(0, 0, bought), -2);
        }
        for (int buyers = 0; buyers <= 6; buyers++) {
            PoisonBook x = told("book 9 0 1" + ";buyer 0 1 0".repeat(buyers));
            c.due("the last BUYER of " + buyers, x.note(0, buyers - 1, 0), buyers == 0 ? -2 : 1);
            c.due("one more", x.note(0, buyers, 0), -2);
        }
    }

    /** "NOTES 0 to 9"; "n NONE: there are none then, 0"; "-2, and nothing happens, ... if there are 10". */
    private void notesCounted() {
        PoisonBook x = told(ONE);
        for (int notes = 1; notes <= 10; notes++) {
            c.due("how many", x.note(5, 0, 0), notes);
            c.due("how many", x.count(12), notes);
        }
        c.due("there are 10", x.note(5, 0, 0), -2);
        c.due("there are 10", x.count(12), 10);
        c.due("none then", x.note(NONE, 0, 0), 0);
        c.due("none then", x.count(12), 0);
        c.due("none again", x.note(NONE, MIN, MAX), 0);
        c.due("the first one", x.note(5, 0, 0), 1);
        c.due("without BUYERS", told("book 0 0 1").note(NONE, 0, 0), 0);
    }

    /** All ten NOTES count, the last one, too. */
    private void tenNotes() {
        PoisonBook x = withRules(1);
        for (int i = 0; i < 9; i++) {
            x.note(0, 0, 1);
        }
        c.due("RULE 0", x.ruled(1), 0);
        x.note(1, 0, 1);
        c.due("none such by the tenth", x.ruled(1), -2);
        x.note(1, 0, 0);
        x.note(NONE, 0, 0);
        c.due("all by no NOTES", x.ruled(0), 2);
    }

    /** "RULED: which of the RULES, and of none ...: how many; the first (none ahead of 0, told as NONE)". */
    private void ruled() {
        for (int rules = 0; rules <= 6; rules++) {
            PoisonBook x = withRules(rules);
            c.due("all of " + rules + " and none", x.ruled(0), rules + 1);
            c.due("none ahead of 0", x.ruled(1), NONE);
            for (int day = 0; day <= 6; day++) {
                x.note(NONE, 0, 0);
                x.note(day, 0, 1);
                c.due("bought on DAY " + day, x.ruled(0), day < rules ? 1 : 0);
                c.due("bought on DAY " + day, x.ruled(1), day < rules ? day : -2);
                x.note(NONE, 0, 0);
                x.note(day, 0, 0);
                c.due("not bought on DAY " + day, x.ruled(0), day < rules ? rules : rules + 1);
                c.due("not bought on DAY " + day, x.ruled(1), NONE);
            }
            for (int what : new int[] {-1, 2, MIN, MAX}) {
                c.due("others", x.ruled(what), -3);
            }
        }
        PoisonBook y = told(ONE, "buy 1 if day = 60");
        y.note(60, 0, 1);
        c.due("on DAY 60", y.ruled(1), 0);
        y.note(59, 0, 0);
        c.due("not on DAY 59", y.ruled(1), 0);
        y.note(60, 0, 0);
        c.due("bought, and did not", y.ruled(0), 0);
    }

    /** "so that from the begin on, all as the text told it, all NOTES are so". */
    private void asTold() {
        String book = "book 9 0 2;sky 0 6;sky 1 6;buyer 6 1 0;buyer 6 3 0;watch 1 1";
        PoisonBook x = told(book, "buy 1 if day = 3");
        x.note(0, 0, 1);
        x.note(0, 1, 1);
        x.note(3, 1, 0);
        c.due("none", x.ruled(1), NONE);
        c.due("one", x.ruled(0), 1);
        x.sell(1);
        x.sell(1);
        x.sell(1);
        x.calm(0, 6);
        x.change(0, 0);
        x.watch(0, 0);
        x.watch(0, 1);
        x.day();
        x.force(0);
        c.due("none, whatever was done", x.ruled(1), NONE);
        c.due("one, whatever was done", x.ruled(0), 1);
        PoisonBook y = told("book 9 0 1;sky 0 6;buyer 6 1 0;watch 0 0");
        y.note(0, 0, 1);
        c.due("who is met did not buy", y.ruled(0), 0);
    }

    /** "LOOK: the DAY (0 to 60) by who buys on which these part best: the most alike are fewest, of several the least". */
    private void look() {
        for (int rules = 0; rules <= 6; rules++) {
            PoisonBook x = withRules(rules);
            c.due("one of " + rules + " parts from the rest on DAY 0", x.look(0), 0);
            c.due("the rest are alike", x.look(1), Math.max(1, rules));
            x.note(0, 0, 0);
            c.due("then on DAY 1", x.look(0), rules > 1 ? 1 : 0);
            c.due("the rest are alike", x.look(1), Math.max(1, rules - 1));
            for (int what : new int[] {-1, 2, MIN, MAX}) {
                c.due("others", x.look(what), NONE);
            }
            x.note(0, 0, 1);
            c.due("no RULE is so", x.look(0), -2);
            c.due("no RULE is so", x.look(1), -2);
        }
        for (int day = 0; day <= 62; day++) {
            PoisonBook x = told(ONE, "buy 1 if day = " + day);
            c.due("they part on DAY " + day, x.look(0), day <= 60 ? day : 0);
            c.due("they part on DAY " + day, x.look(1), day <= 60 ? 1 : 2);
        }
        PoisonBook y = told(ONE + ";buyer 0 1 0", "buy 1 if day = 3 and buyer = 0", "buy 1 if day = 3 and buyer = 1",
                "buy 1 if day = 2", "buy 1 if day = 2");
        c.due("three are alike on DAYS 2 and 3: the least", y.look(0), 2);
        c.due("three are alike", y.look(1), 3);
    }

    /** On DAY 2 three are alike, on DAY 3 none: DAY 3 parts better, though it is later. Who buys counts, not how many. */
    private void lookLater() {
        PoisonBook x = told(ONE + ";buyer 0 1 0", "buy 1 if day = 2; buy 1 if day = 3 and buyer = 0",
                "buy 1 if day = 3 and buyer = 1", "buy 1 if day = 3");
        c.due("all four part on DAY 3", x.look(0), 3);
        c.due("each by itself", x.look(1), 1);
        PoisonBook y = told(ONE, "buy 1 if day = 4", "buy 1 if day = 4", "buy 1 if day = 7", "buy 1 if day = 7");
        c.due("of several the least", y.look(0), 4);
        c.due("three are alike", y.look(1), 3);
    }

    /** All seven alike; and RULES that are not so do not part. */
    private void lookAlike() {
        PoisonBook x = told(ONE, "buy 0", "buy 0", "buy 0", "buy 0", "buy 0", "buy 0");
        c.due("all alike on each DAY: the least", x.look(0), 0);
        c.due("all alike", x.look(1), 7);
        PoisonBook y = told(ONE, "buy 0", "buy 1 if day = 0");
        y.note(0, 0, 0);
        c.due("none and RULE 0 do not part", y.look(0), 0);
        c.due("two are alike", y.look(1), 2);
    }

    /** "x (0 to 2147483647; 0 at first)"; "NONE, and nothing happens, below 0". */
    private void seed() {
        PoisonBook x = new PoisonBook();
        int was = 0;
        for (int number : new int[] {0, 1, 65535, 65536, MAX - 1, MAX, 0, 7}) {
            c.due("what it was", x.seed(number), was);
            c.due("x", x.count(14), number);
            was = number;
        }
        for (int number : new int[] {-1, -2, MIN, MIN + 1}) {
            c.due("below 0", x.seed(number), NONE);
            c.due("nothing happened", x.count(14), 7);
        }
    }

    /** From a seed on the first DRAW mod 100 is below p, or not; then a DRAW mod 10 is STILL. */
    private void drawn(int seed, int hundredth, int still) {
        PoisonBook x = told("book 9 0 1;sky 0 " + (9 - still) + ";buyer 0 1 0", "buy 1 if still = " + still);
        x.force(0);
        x.seed(seed);
        c.due(seed + ": not below " + hundredth, x.summers(1, 1, hundredth, 0), 0);
        c.due(seed + ": below " + (hundredth + 1), x.summers(1, 1, hundredth + 1, 0), 1);
        c.due(seed + ": never", x.summers(1, 1, 0, 0), 0);
        c.due(seed + ": always", x.summers(1, 1, 100, 0), 1);
    }

    /** "x becomes x * 1103515245 + 12345, of 2147483648 the rest; a DRAW is x / 65536". */
    private void draws() {
        drawn(0, 0, 8);
        drawn(1, 38, 8);
        drawn(MAX, 29, 9);
        drawn(MAX - 1, 59, 8);
        drawn(1073741824, 84, 4);
        drawn(194, 99, 9);
        drawn(1034, 0, 9);
        drawn(163, 0, 0);
    }

    /** From 0 on the DRAWS are 0, 21468, 9988, 22117, 3498, 16927, 16045, 19741. */
    private void drawnAheadOfEach() {
        PoisonBook x = told("book 99 0 1;buyer 0 1 0", "buy 1 if day = 0 and still = 8 or day = 1 and still = 7"
                + " or day = 2 and still = 7 or day = 3 and still = 1", "buy 1 if day < 3 and still = 8 or day = 3 and still = 5");
        x.force(0);
        c.due("two DRAWS ahead of each DAY", x.summers(1, 4, 100, 0), 4);
        x.force(1);
        c.due("one, where it is not below p; the sky goes on", x.summers(1, 4, 50, 0), 4);
        PoisonBook y = told("book 99 0 2;sky 0 3;sky 1 3;buyer 0 1 0",
                "buy 1 if day = 0 and still = 8 and next = 3 or day = 1 and still = 3 and next = 8 or day = 2 and still = 8");
        y.force(0);
        c.due("of its day of the ROUND alone", y.summers(1, 3, 50, 0), 3);
    }

    /** "SUMMERS m times (1 to 10) n DAYS (1 to 60) ... below p (0 to 100)": GRAINS, SHELF, all together. */
    private void summers() {
        PoisonBook x = told(ONE, "buy 1");
        x.force(0);
        for (int m = -1; m <= 12; m++) {
            boolean can = m >= 1 && m <= 10;
            c.due("GRAINS, " + m + " times", x.summers(m, 3, 50, 0), can ? 3 * m : NONE);
            c.due("SHELF, " + m + " times", x.summers(m, 3, 50, 1), can ? 96 * m : NONE);
        }
        for (int n = -1; n <= 62; n++) {
            boolean can = n >= 1 && n <= 60;
            c.due("GRAINS, " + n + " DAYS", x.summers(10, n, 50, 0), can ? 10 * n : NONE);
            c.due("SHELF, " + n + " DAYS", x.summers(10, n, 50, 1), can ? 10 * (99 - n) : NONE);
        }
        for (int p = -1; p <= 101; p++) {
            c.due("below " + p, x.summers(1, 1, p, 0), p >= 0 && p <= 100 ? 1 : NONE);
        }
        for (int outer : new int[] {MIN, MAX}) {
            c.due("m", x.summers(outer, 1, 1, 0), NONE);
            c.due("n", x.summers(1, outer, 1, 0), NONE);
            c.due("p", x.summers(1, 1, outer, 0), NONE);
            c.due("what", x.summers(1, 1, 1, outer), NONE);
        }
        c.due("what", x.summers(1, 1, 1, 2), NONE);
        c.due("what", x.summers(1, 1, 1, -1), NONE);
        c.due("without BUYERS", told("book 9 0 1").summers(10, 60, 100, 1), 90);
    }

    /** Each time begins as it is now, and x goes on: 0, 21468, then 9988 is not below 50, then 22117 is. */
    private void summersOneAfterTheOther() {
        PoisonBook x = told("book 99 0 1;sky 0 1;buyer 0 1 0", "buy 1 if still = 8", "buy 1 if still = 1");
        x.force(0);
        c.due("the first and the third", x.summers(3, 1, 50, 0), 2);
        x.force(1);
        c.due("the second as it is told", x.summers(3, 1, 50, 0), 1);
        c.due("SHELF, all together", x.summers(3, 1, 50, 1), 296);
    }

    /** "IMAGES 0 to 3: all but the TAPE and the RULES, as it is (the RULE IN FORCE, too)". */
    private void images() {
        PoisonBook x = told("book 9 0 1;buyer 0 1 0");
        for (int k = 0; k < 4; k++) {
            c.due("never made: " + k, x.back(k), NONE);
        }
        for (int k = 0; k < 4; k++) {
            c.due("made: " + k, x.image(k), k);
            x.day();
        }
        for (int k : new int[] {-1, 4, 5, MIN, MAX}) {
            c.due("no IMAGE " + k, x.image(k), NONE);
            c.due("no IMAGE " + k, x.back(k), NONE);
        }
        c.due("nothing happened", x.count(5), 4);
        c.due("nothing happened", x.count(13), 4);
        for (int k : new int[] {2, 0, 3, 1, 1, 0}) {
            c.due("gone back to: " + k, x.back(k), k);
            c.due("DAY", x.count(5), k);
            c.due("nothing can be UNDONE", x.count(13), 0);
            c.due("nothing can be UNDONE", x.undo(), NONE);
            x.day();
            c.due("but what comes then", x.undo(), 0);
        }
    }

    /** "gone back to, it is as it was (these stay; nothing can be UNDONE then)": the TAPE and the RULES stay. */
    private void imageKeeps() {
        PoisonBook x = told(ONE, "buy 1");
        x.force(0);
        x.seed(5);
        x.note(3, 0, 1);
        x.day();
        c.due("made", x.image(0), 1);
        Checks.rule(x, "buy 0");
        x.force(1);
        x.seed(6);
        x.note(NONE, 0, 0);
        x.change(0, 9);
        x.watch(0, 0);
        x.sell(0);
        x.feed(0, 0, 0, 0, 0);
        c.due("gone back to", x.back(0), 1);
        c.due("RULES stay", x.count(3), 2);
        c.due("the TAPE stays", x.count(15), 20);
        c.due("the RULE IN FORCE", x.count(4), 0);
        c.due("x", x.count(14), 5);
        c.due("NOTES", x.count(12), 1);
        c.due("SHELF", x.count(7), 98);
        c.due("STILL", x.sky(0, 0), 0);
        c.due("police", x.sky(0, 1), 0);
        c.due("they buy by it", x.day(), 1);
        c.due("RULE 0 alone by the NOTE", x.ruled(1), 0);
        Checks.book(x, "book 1 1 1");
        c.due("another BOOK does not touch it", x.back(0), 1);
        c.due("its BUYERS", x.count(2), 1);
        c.due("made anew", x.image(0), 1);
    }

    /** The NOTES of an IMAGE are as they were, whatever was told then. */
    private void imageOfNotes() {
        for (int[] then : new int[][] {{4, 0, 1}, {3, 1, 1}, {3, 0, 0}}) {
            PoisonBook x = told(ONE + ";buyer 0 1 0", "buy 1 if day = 3 and buyer = 0");
            x.note(3, 0, 1);
            x.image(0);
            x.note(NONE, 0, 0);
            x.note(then[0], then[1], then[2]);
            c.due("not RULE 0", x.ruled(1), then[2] == 0 ? NONE : -2);
            x.back(0);
            c.due("RULE 0 again", x.ruled(1), 0);
            c.due("it alone", x.ruled(0), 1);
        }
    }

    /** What the text told is of the IMAGE, too. */
    private void imageOfBegin() {
        PoisonBook x = told("book 99 0 1;sky 0 9;buyer 9 1 0");
        x.note(0, 0, 1);
        x.day();
        x.image(0);
        Checks.book(x, ONE);
        x.note(0, 0, 1);
        c.due("by this text they do not buy", x.ruled(0), 0);
        x.back(0);
        c.due("by that one they do", x.ruled(0), 1);
        c.due("by no RULE", x.ruled(1), NONE);
    }

    /** An IMAGE of having no BOOK is one, too: DAY is 0 then. */
    private void imageWithoutBook() {
        PoisonBook x = new PoisonBook();
        c.due("made", x.image(3), 0);
        Checks.book(x, ONE);
        x.day();
        c.due("gone back to", x.back(3), 0);
        c.due("no BOOK", x.count(1), 0);
        c.due("no BOOK", x.day(), NONE);
        c.due("no BUYERS", x.count(2), 0);
    }

    public static void main(String[] args) {
        NoteEdgesTest t = new NoteEdgesTest();
        t.notesTold();
        t.notesCounted();
        t.tenNotes();
        t.ruled();
        t.asTold();
        t.look();
        t.lookLater();
        t.lookAlike();
        t.seed();
        t.draws();
        t.drawnAheadOfEach();
        t.summers();
        t.summersOneAfterTheOther();
        t.images();
        t.imageKeeps();
        t.imageOfNotes();
        t.imageOfBegin();
        t.imageWithoutBook();
        t.c.close("NoteEdgesTest");
    }
}
