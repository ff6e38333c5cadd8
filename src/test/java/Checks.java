/** What the tests have in common: telling a text to an object, and counting what is not as it is due. */
final class Checks {
    private int wrong = 0;
    private int done = 0;

    void due(String call, long got, long want) {
        done++;
        if (got != want) {
            wrong++;
            if (wrong <= 40) {
                System.out.println(call + " answered " + got + ", due is " + want);
            }
        }
    }

    void holds(String what, boolean holds) {
        due(what, holds ? 1 : 0, 1);
    }

    /** Ends the test: with exit code 1, if anything was wrong or nothing was looked at. */
    void close(String name) {
        System.out.println(name + ": " + done + " looked at, " + wrong + " wrong");
        if (wrong != 0 || done == 0) {
            System.exit(1);
        }
    }

    /** Twenty bytes of a text from a place on, as five numbers; 0 behind its end. */
    static int[] numbers(String text, int from) {
        int[] five = new int[5];
        for (int i = 0; i < 20; i++) {
            int one = from + i < text.length() ? text.charAt(from + i) : 0;
            five[i / 4] = five[i / 4] << 8 | one;
        }
        return five;
    }

    /** Puts a text, and nothing else, on the TAPE. */
    static void tape(PoisonBook x, String text) {
        x.end(0);
        for (int from = 0; from < text.length(); from += 20) {
            int[] n = numbers(text, from);
            x.feed(n[0], n[1], n[2], n[3], n[4]);
        }
        x.end(text.length());
    }

    static int book(PoisonBook x, String text) {
        tape(x, text);
        return x.book();
    }

    static int rule(PoisonBook x, String text) {
        tape(x, text);
        return x.rule();
    }

    static PoisonBook told(String book) {
        PoisonBook x = new PoisonBook();
        book(x, book);
        return x;
    }

    /** What a FAULT of a kind at a place is answered as. */
    static int fault(int place, int kind) {
        return -2 - (1 + 8 * place + kind);
    }
}
