import java.lang.reflect.InvocationTargetException;
import java.lang.reflect.Method;
import java.util.ArrayList;
import java.util.Arrays;
import java.util.List;
import java.util.Random;

/** Drawn runs of calls, always the same ones: PoisonBook has to answer each as the Model does. */
public final class AgainstModelTest {
    private static final String[] WORDS = {"buyer", "temper", "grains", "waits", "still", "next", "shelf", "bought",
        "met", "since", "sold", "clock", "day"};
    private static final String[] SIGNS = {"<", "<=", "=", ">=", ">"};

    private final Random random;
    private final Checks checks;
    private final PoisonBook program = new PoisonBook();
    private final Model model = new Model();
    private final List<String> run = new ArrayList<>();
    private final int number;
    private boolean broken = false;

    private AgainstModelTest(int number, Checks checks) {
        this.number = number;
        this.random = new Random(number);
        this.checks = checks;
    }

    private static Method named(Class<?> type, String name) {
        for (Method m : type.getDeclaredMethods()) {
            if (m.getName().equals(name)) {
                return m;
            }
        }
        throw new AssertionError(name);
    }

    private static int answer(Object object, String name, Object... args) {
        try {
            return (int) named(object.getClass(), name).invoke(object, args);
        } catch (InvocationTargetException e) {
            throw new AssertionError(object.getClass() + "." + name + Arrays.toString(args), e.getCause());
        } catch (IllegalAccessException e) {
            throw new AssertionError(e);
        }
    }

    private int call(String name, Object... args) {
        if (broken) {
            return 0;
        }
        int want = answer(model, name, args);
        int got = answer(program, name, args);
        run.add(name + Arrays.toString(args) + " = " + want);
        checks.due("run " + number + ", call " + run.size() + ": " + name + Arrays.toString(args), got, want);
        if (got != want) {
            broken = true;
            System.out.println(String.join("\n", run));
        }
        return want;
    }

    private int upTo(int most) {
        return random.nextInt(most + 1);
    }

    private boolean once(int times) {
        return random.nextInt(times) == 0;
    }

    /** A number of a range, now and then one just outside, or an outermost one. */
    private int about(int least, int most) {
        switch (random.nextInt(24)) {
            case 0: return least - 1;
            case 1: return most + 1;
            case 2: return once(2) ? Integer.MIN_VALUE : Integer.MAX_VALUE;
            case 3: return most;
            case 4: return least;
            default: return least + upTo(most - least);
        }
    }

    /** Mostly one that there is. */
    private int someBuyer() {
        int buyers = model.now == null ? 0 : model.now.buyers.size();
        return buyers == 0 || once(8) ? about(0, 5) : random.nextInt(buyers);
    }

    private int someClock() {
        return model.now == null || once(8) ? about(0, 9) : random.nextInt(model.now.round);
    }

    private String blank() {
        return once(6) ? "  " : once(6) ? "" : " ";
    }

    private String drawBook() {
        int round = 1 + upTo(once(3) ? 9 : 4);
        StringBuilder b = new StringBuilder();
        b.append("book ").append(upTo(99)).append(' ').append(upTo(9)).append(' ').append(round);
        int buyers = 0;
        for (int i = once(8) ? 0 : 1 + upTo(3); i > 0; i--) {
            b.append(";buyer ").append(upTo(20)).append(' ').append(1 + upTo(8)).append(' ').append(upTo(3));
            buyers++;
        }
        int clauses = once(15) ? 42 : upTo(once(2) ? 8 : 22);
        for (int i = 0; i < clauses; i++) {
            int kind = random.nextInt(5);
            b.append(once(5) ? " ; " : ";");
            if (kind < 2) {
                b.append("sky").append(blank()).append(upTo(round - 1)).append(' ').append(upTo(9));
            } else if (kind < 4 && (buyers < 6 || once(20))) {
                b.append("buyer ").append(upTo(20)).append(' ').append(1 + upTo(8)).append(' ').append(upTo(once(2) ? 9 : 2));
                buyers++;
            } else if (buyers > 0) {
                b.append("watch ").append(upTo(round - 1)).append(' ').append(upTo(Math.min(5, buyers - 1)));
            } else {
                b.append("sky 0 ").append(upTo(9));
            }
        }
        return b.toString();
    }

    private String drawSum() {
        StringBuilder b = new StringBuilder(drawValue());
        int more = once(10) ? upTo(20) : upTo(3);
        for (int i = 0; i < more; i++) {
            b.append(blank()).append("+-*/%".charAt(random.nextInt(5))).append(blank()).append(drawValue());
        }
        return b.toString();
    }

    private String drawValue() {
        if (once(2)) {
            return WORDS[random.nextInt(WORDS.length)];
        }
        return String.valueOf(once(12) ? upTo(99999) : once(3) ? upTo(100) : upTo(14));
    }

    private String drawFact(int depth) {
        if (depth < 4 && once(4) || once(40) && depth < 14) {
            return "not " + drawFact(depth + 1);
        }
        if (depth < 4 && once(4) || once(40) && depth < 14) {
            return "[" + blank() + drawTest(depth + 1) + blank() + "]";
        }
        return drawSum() + blank() + SIGNS[random.nextInt(SIGNS.length)] + blank() + drawSum();
    }

    private String drawTest(int depth) {
        StringBuilder b = new StringBuilder(drawFact(depth));
        int more = once(2) ? 0 : upTo(2);
        for (int i = 0; i < more; i++) {
            b.append(once(2) ? " and " : " or ").append(drawFact(depth));
        }
        return b.toString();
    }

    private String drawRule() {
        StringBuilder b = new StringBuilder();
        int clauses = once(12) ? 11 + upTo(2) : 1 + upTo(3);
        for (int i = 0; i < clauses; i++) {
            b.append(i == 0 ? "" : ";").append("buy ").append(drawSum());
            if (!once(4)) {
                b.append(" if ").append(drawTest(0));
            }
        }
        return b.toString();
    }

    /** Now and then a byte of a text goes, comes, or is another one. */
    private String spoiled(String text) {
        if (!once(4) || text.isEmpty()) {
            return text;
        }
        int at = random.nextInt(text.length());
        String signs = ";[]<=>+-*/% 0123456789abdefinoruy\u0000\u00e9A";
        String other = String.valueOf(signs.charAt(random.nextInt(signs.length())));
        switch (random.nextInt(4)) {
            case 0: return text.substring(0, at);
            case 1: return text.substring(0, at) + other + text.substring(at);
            case 2: return text.substring(0, at) + text.substring(at + 1);
            default: return text.substring(0, at) + other + text.substring(at + 1);
        }
    }

    private void tell(String text, String how) {
        String told = text.length() > 400 ? text.substring(0, 400) : text;
        if (model.tape.size() > 0 && !once(10)) {
            call("end", 0);
        }
        int before = model.tape.size();
        for (int from = 0; from < told.length(); from += 20) {
            int[] n = Checks.numbers(told, from);
            call("feed", n[0], n[1], n[2], n[3], n[4]);
        }
        call("end", Math.min(400, before + told.length()));
        call(how);
    }

    private void act() {
        switch (random.nextInt(8)) {
            case 0: call("sell", someBuyer()); break;
            case 1: call("calm", someBuyer(), about(1, once(2) ? 4 : 20)); break;
            case 2: call("watch", someClock(), someBuyer()); break;
            case 3: call("change", someClock(), about(0, 9)); break;
            case 4:
                for (int i = upTo(once(8) ? 24 : 3); i > 0; i--) call("undo");
                break;
            default:
                for (int i = upTo(once(8) ? 24 : 3); i >= 0; i--) call("day");
        }
    }

    private void ask() {
        int what = about(0, 1);
        switch (random.nextInt(20)) {
            case 18: case 19: takeNote(); break;
            case 0: call("ahead", someBuyer(), about(0, 100), about(0, 2)); break;
            case 1: call("buys", someBuyer()); break;
            case 2: call("empty"); break;
            case 3: call("tells", about(1, 100), what); break;
            case 4: call("guard", about(1, 30), what); break;
            case 5: call("best", about(1, 100), what); break;
            case 6: call("least", someBuyer(), about(1, 60)); break;
            case 7: call("soothe", about(1, 60), what); break;
            case 8: call("page", about(0, once(2) ? 60 : 20), about(0, 2)); break;
            case 9: call("fines", about(0, 9999), someBuyer()); break;
            case 10: call("rests", someBuyer(), someBuyer(), about(1, 30), about(0, 2)); break;
            case 11: call("ring", what); break;
            case 12: call("peak", about(1, 100), what); break;
            case 13: takeNote(); break;
            case 14: call("ruled", what); break;
            case 15: call("look", what); break;
            case 16: call("summers", about(1, 10), about(1, 60), about(0, 100), what); break;
            default: call("seed", about(0, Integer.MAX_VALUE - 1));
        }
    }

    /** Mostly what is so by one of the RULES, or by none, so that not all of them are ruled out at once. */
    private void takeNote() {
        int day = once(20) ? -1 : about(0, once(2) ? 60 : 8);
        int buyer = someBuyer();
        int bought = about(0, 1);
        if (model.now != null && day >= 0 && day <= 60 && once(2)) {
            int rule = upTo(model.rules.size()) - 1;
            Model.State s = model.begin.copy();
            for (int i = 0; i < day; i++) s.pass(rule < 0 ? null : model.rules.get(rule));
            bought = s.pass(rule < 0 ? null : model.rules.get(rule)).contains(buyer) ? 1 : 0;
        }
        call("note", day, buyer, bought);
    }

    private void rest() {
        switch (random.nextInt(5)) {
            case 0: call("force", once(2) ? upTo(model.rules.size()) - 1 : about(-1, 5)); break;
            case 1: call("image", about(0, 3)); break;
            case 2: call("back", about(0, 3)); break;
            case 3: call("end", about(0, 20)); break;
            default: tell(spoiled(drawRule()), "rule");
        }
    }

    private void lookAround() {
        for (int what = -1; what <= 16; what++) {
            call("count", what);
        }
        int buyer = someBuyer();
        for (int what = 0; what <= 5; what++) {
            call("buyer", buyer, what);
        }
        call("sky", someClock(), 0);
        call("sky", someClock(), 1);
        call("buyer", someBuyer(), about(0, 5));
        call("sky", someClock(), about(0, 1));
    }

    private void go() {
        if (once(10)) {
            for (int i = 0; i < 10; i++) ask();
            act();
            rest();
            lookAround();
        }
        tell(spoiled(drawBook()), "book");
        for (int i = upTo(5); i > 0; i--) {
            tell(spoiled(drawRule()), "rule");
        }
        call("force", about(-1, 2));
        while (run.size() < 480 && !broken) {
            int kind = random.nextInt(40);
            if (kind < 12) {
                act();
            } else if (kind < 30) {
                ask();
            } else if (kind < 36) {
                rest();
            } else if (kind < 39) {
                lookAround();
            } else {
                tell(spoiled(drawBook()), "book");
            }
        }
    }

    public static void main(String[] args) {
        Checks checks = new Checks();
        int from = args.length > 1 ? Integer.parseInt(args[0]) : 0;
        int to = args.length > 1 ? Integer.parseInt(args[1]) : 400;
        for (int run = from; run < to; run++) {
            new AgainstModelTest(run, checks).go();
        }
        checks.close("AgainstModelTest");
    }
}
