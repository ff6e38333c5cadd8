import java.util.ArrayList;
import java.util.List;
import java.util.function.Supplier;
import java.util.function.ToIntFunction;

/** Two objects made alike: after a call on the one that must change nothing, all that can be asked of both is alike. */
final class Twins {
    static final String SHOP =
            "book 20 5 3;sky 0 7;sky 1 2;sky 2 4;buyer 6 3 1;buyer 10 4 2;buyer 13 2 0;watch 1 1;watch 2 2";
    private static final int BYTES = 27;

    private final Checks c;

    Twins(Checks c) {
        this.c = c;
    }

    /** A BOOK some DAYS on, RULES, one IN FORCE, NOTES, ACTS of each kind, an x, two IMAGES, bytes on the TAPE. */
    static PoisonBook rich() {
        PoisonBook x = Checks.told(SHOP);
        x.image(3);
        Checks.rule(x, "buy temper - 8 if still > 3");
        Checks.rule(x, "buy 1 if since > 2 and shelf > 3; buy 0");
        x.force(1);
        x.seed(4711);
        x.note(0, 1, 1);
        x.note(3, 2, 0);
        x.day();
        x.image(1);
        x.sell(2);
        x.calm(1, 2);
        x.watch(0, 2);
        x.change(2, 6);
        x.day();
        x.feed(0x62757920, 0x31202b20, 0x32000000, 0, 0);
        x.feed(0, 0, 0, 0, 0);
        x.end(BYTES);
        return x;
    }

    /** RULES and bytes on the TAPE, but no BOOK. */
    static PoisonBook withoutBook() {
        PoisonBook x = new PoisonBook();
        Checks.rule(x, "buy 1");
        x.force(0);
        x.seed(3);
        x.image(2);
        x.feed(0x626f6f6b, 0x20372030, 0x20310000, 0, 0);
        x.end(10);
        return x;
    }

    /** All that can be asked; what can be UNDONE is, and IMAGES are gone back to: it is of no use then. */
    private static List<Integer> all(PoisonBook x) {
        List<Integer> all = new ArrayList<>();
        now(x, all);
        for (int undone = 0; undone >= 0 && all.size() < 300; ) {
            undone = x.undo();
            all.add(undone);
            shop(x, all);
        }
        for (int k = 0; k < 4; k++) {
            all.add(x.back(k));
            all.add(x.count(4));
            all.add(x.count(12));
            all.add(x.count(14));
            all.add(x.ruled(0));
            shop(x, all);
        }
        all.add(x.book());
        return all;
    }

    private static void now(PoisonBook x, List<Integer> all) {
        for (int what = 0; what < 16; what++) {
            all.add(x.count(what));
        }
        for (int b = 0; b < 3; b++) {
            for (int what = 1; what < 6; what++) {
                all.add(x.buyer(b, what));
            }
        }
        all.add(x.buys(0));
        all.add(x.ruled(0));
        all.add(x.ruled(1));
        all.add(x.look(0));
        all.add(x.summers(2, 9, 50, 0));
    }

    private static void shop(PoisonBook x, List<Integer> all) {
        for (int b = 0; b < 3; b++) {
            all.add(x.buyer(b, 0));
        }
        for (int clock = 0; clock < 3; clock++) {
            all.add(x.sky(clock, 0));
            all.add(x.sky(clock, 1));
        }
        for (int what = 5; what < 12; what++) {
            all.add(x.count(what));
        }
    }

    /** The call answers so, and nothing changes by it. */
    void same(String call, Supplier<PoisonBook> made, ToIntFunction<PoisonBook> answer, int want) {
        PoisonBook called = made.get();
        PoisonBook other = made.get();
        c.due(call, answer.applyAsInt(called), want);
        c.holds(call + ": nothing changes", all(called).equals(all(other)));
    }

    /** Nothing changes by the call, whatever it answers. */
    void asked(String call, Supplier<PoisonBook> made, ToIntFunction<PoisonBook> answer) {
        same(call, made, answer, answer.applyAsInt(made.get()));
    }

    /** The call does change something, so that these looks are not in vain. */
    void other(String call, Supplier<PoisonBook> made, ToIntFunction<PoisonBook> answer, int want) {
        PoisonBook called = made.get();
        PoisonBook other = made.get();
        c.due(call, answer.applyAsInt(called), want);
        c.holds(call + ": something changes", !all(called).equals(all(other)));
    }
}
