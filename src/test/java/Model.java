import java.math.BigInteger;
import java.util.ArrayDeque;
import java.util.ArrayList;
import java.util.Arrays;
import java.util.HashMap;
import java.util.List;
import java.util.Map;
import java.util.TreeMap;
import java.util.function.ToIntFunction;

/** The document a second time, written for plainness alone, with the whole Java library: what PoisonBook is held against. */
final class Model {
    static final class Fault extends RuntimeException {
        private static final long serialVersionUID = 1L;
        final int number;

        Fault(int place, int kind) {
            number = 1 + 8 * place + kind;
        }
    }

    interface Sum {
        BigInteger of(State state, int buyer);
    }

    interface Test {
        boolean holds(State state, int buyer);
    }

    record Clause(Sum sum, Test test) {
    }

    record Note(int n, int buyer, int bought) {
    }

    static final class Buyer implements Cloneable {
        int temper, grains, waits, bought, met;
        Integer last;

        Buyer copy() {
            try {
                return (Buyer) clone();
            } catch (CloneNotSupportedException e) {
                throw new AssertionError(e);
            }
        }
    }

    static final class State {
        int shelf, fill, round, day;
        List<Buyer> buyers = new ArrayList<>();
        int[] still;
        boolean[][] meets;

        State copy() {
            State s = new State();
            s.shelf = shelf;
            s.fill = fill;
            s.round = round;
            s.day = day;
            for (Buyer b : buyers) s.buyers.add(b.copy());
            s.still = still.clone();
            s.meets = new boolean[meets.length][];
            for (int i = 0; i < meets.length; i++) s.meets[i] = meets[i].clone();
            return s;
        }

        int sold() {
            return buyers.stream().mapToInt(b -> b.bought).sum();
        }

        boolean can(int i) {
            Buyer b = buyers.get(i);
            return (b.last == null || day - b.last > b.waits) && shelf >= b.grains;
        }

        void buy(int i) {
            Buyer b = buyers.get(i);
            shelf -= b.grains;
            b.temper = b.temper < 6 ? 0 : b.temper - 6;
            b.bought += b.grains;
            b.last = day;
        }

        List<Integer> pass(List<Clause> rule) {
            List<Integer> who = new ArrayList<>();
            int clock = day % round;
            for (int i = 0; i < buyers.size(); i++) {
                if (!can(i)) continue;
                Buyer b = buyers.get(i);
                boolean comes = b.temper + still[clock] >= 12;
                if (rule != null) {
                    BigInteger sum = BigInteger.ZERO;
                    for (Clause c : rule) {
                        if (c.test == null || c.test.holds(this, i)) {
                            sum = c.sum.of(this, i);
                            break;
                        }
                    }
                    comes = sum.signum() > 0;
                }
                if (!comes) continue;
                if (meets[clock][i]) {
                    b.met++;
                    b.last = day;
                } else {
                    buy(i);
                    who.add(i);
                }
            }
            for (Buyer b : buyers) {
                if (still[clock] >= 5 && b.temper < 20) b.temper++;
                if (still[clock] <= 2 && b.temper > 0) b.temper--;
            }
            if (day % 7 == 6) {
                shelf += fill;
                if (shelf > 99) shelf = 99;
            }
            day++;
            return who;
        }
    }

    record Saved(State now, State begin, List<Note> notes, int inForce, long x) {
    }

    final List<Integer> tape = new ArrayList<>();
    final List<List<Clause>> rules = new ArrayList<>();
    State now, begin;
    List<Note> notes = new ArrayList<>();
    int inForce = -1;
    long x = 0;
    final ArrayDeque<State> past = new ArrayDeque<>();
    final Map<Integer, Saved> images = new HashMap<>();

    // ---- texts ----

    static final class Pieces {
        final List<Integer> text;
        int at = 0;

        Pieces(List<Integer> text) {
            this.text = text;
        }

        int at(int i) {
            return i < text.size() ? text.get(i) : -1;
        }

        void blanks() {
            while (at(at) == 32) at++;
        }

        /** The piece that stands next, "" at the end. */
        String peek() {
            blanks();
            StringBuilder piece = new StringBuilder();
            int i = at;
            int c = at(i);
            if (c >= 'a' && c <= 'z') {
                while (at(i) >= 'a' && at(i) <= 'z') piece.append((char) at(i++));
            } else if (c >= '0' && c <= '9') {
                while (at(i) >= '0' && at(i) <= '9') piece.append((char) at(i++));
            } else if (c >= 0) {
                piece.append((char) c);
                if ((c == '<' || c == '>') && at(i + 1) == '=') piece.append('=');
            }
            return piece.toString();
        }

        String take() {
            String piece = peek();
            at += piece.length();
            return piece;
        }

        boolean takes(String wanted) {
            if (!peek().equals(wanted)) return false;
            take();
            return true;
        }

        Fault fault(int kind) {
            blanks();
            return new Fault(at, kind);
        }

        boolean isNumber() {
            return peek().matches("[0-9]+");
        }

        int number(int least, int most) {
            if (!isNumber()) throw fault(0);
            String digits = peek();
            if (digits.length() > 5) throw fault(1);
            int value = Integer.parseInt(digits);
            if (value < least || value > most) throw fault(1);
            take();
            return value;
        }
    }

    static State readBook(List<Integer> text) {
        Pieces p = new Pieces(text);
        State s = new State();
        int clauses = 0;
        do {
            String word = p.peek();
            if (!List.of("book", "sky", "buyer", "watch").contains(word)) throw p.fault(0);
            if (clauses == 40) throw p.fault(4);
            if (clauses == 0 && !word.equals("book")) throw p.fault(4);
            if (clauses > 0 && word.equals("book")) throw p.fault(4);
            if (word.equals("buyer") && s.buyers.size() == 6) throw p.fault(4);
            p.take();
            switch (word) {
                case "book" -> {
                    s.shelf = p.number(0, 99);
                    s.fill = p.number(0, 9);
                    s.round = p.number(1, 10);
                    s.still = new int[s.round];
                    s.meets = new boolean[s.round][6];
                }
                case "sky" -> {
                    int clock = p.number(0, s.round - 1);
                    s.still[clock] = p.number(0, 9);
                }
                case "buyer" -> {
                    Buyer b = new Buyer();
                    b.temper = p.number(0, 20);
                    b.grains = p.number(1, 9);
                    b.waits = p.number(0, 9);
                    s.buyers.add(b);
                }
                default -> {
                    int clock = p.number(0, s.round - 1);
                    s.meets[clock][p.number(0, s.buyers.size() - 1)] = true;
                }
            }
            clauses++;
        } while (p.takes(";"));
        if (!p.peek().isEmpty()) throw p.fault(0);
        return s;
    }

    static final class RuleText {
        final Pieces p;
        int counted = 0;

        RuleText(List<Integer> text) {
            p = new Pieces(text);
        }

        List<Clause> all() {
            List<Clause> clauses = new ArrayList<>();
            do {
                if (!p.peek().equals("buy")) throw p.fault(0);
                if (clauses.size() == 12) throw p.fault(4);
                p.take();
                Sum sum = sum();
                clauses.add(new Clause(sum, p.takes("if") ? test(0) : null));
            } while (p.takes(";"));
            if (!p.peek().isEmpty()) throw p.fault(0);
            return clauses;
        }

        Test test(int depth) {
            Test left = part(depth);
            while (p.takes("or")) {
                Test a = left, b = part(depth);
                left = (s, i) -> a.holds(s, i) || b.holds(s, i);
            }
            return left;
        }

        Test part(int depth) {
            Test left = fact(depth);
            while (p.takes("and")) {
                Test a = left, b = fact(depth);
                left = (s, i) -> a.holds(s, i) && b.holds(s, i);
            }
            return left;
        }

        Test fact(int depth) {
            String piece = p.peek();
            if (piece.equals("not") || piece.equals("[")) {
                if (depth == 10) throw p.fault(2);
                p.take();
                if (piece.equals("not")) {
                    Test inner = fact(depth + 1);
                    return (s, i) -> !inner.holds(s, i);
                }
                Test inner = test(depth + 1);
                if (!p.takes("]")) throw p.fault(0);
                return inner;
            }
            Sum left = sum();
            String sign = p.peek();
            if (!List.of("<", "<=", "=", ">=", ">").contains(sign)) throw p.fault(0);
            one();
            p.take();
            Sum right = sum();
            return (s, i) -> {
                int c = left.of(s, i).compareTo(right.of(s, i));
                return switch (sign) {
                    case "<" -> c < 0;
                    case "<=" -> c <= 0;
                    case "=" -> c == 0;
                    case ">=" -> c >= 0;
                    default -> c > 0;
                };
            };
        }

        void one() {
            if (counted == 60) throw p.fault(3);
            counted++;
        }

        static BigInteger around(BigInteger v) {
            return BigInteger.valueOf(v.longValue());
        }

        Sum sum() {
            Sum left = term();
            while (p.peek().equals("+") || p.peek().equals("-")) {
                boolean plus = p.take().equals("+");
                Sum a = left, b = term();
                left = (s, i) -> around(plus ? a.of(s, i).add(b.of(s, i)) : a.of(s, i).subtract(b.of(s, i)));
            }
            return left;
        }

        Sum term() {
            Sum left = value();
            while (List.of("*", "/", "%").contains(p.peek())) {
                String sign = p.take();
                Sum a = left, b = value();
                left = (s, i) -> {
                    BigInteger one = a.of(s, i), two = b.of(s, i);
                    if (sign.equals("*")) return around(one.multiply(two));
                    if (two.signum() == 0) return BigInteger.ZERO;
                    return around(sign.equals("/") ? one.divide(two) : one.remainder(two));
                };
            }
            return left;
        }

        Sum value() {
            if (p.isNumber()) {
                String digits = p.peek();
                if (digits.length() > 5) throw p.fault(1);
                one();
                p.take();
                BigInteger v = new BigInteger(digits);
                return (s, i) -> v;
            }
            String word = p.peek();
            if (!word.matches("buyer|temper|grains|waits|still|next|shelf|bought|met|since|sold|clock|day")) {
                throw p.fault(0);
            }
            one();
            p.take();
            return (s, i) -> {
                Buyer b = s.buyers.get(i);
                return BigInteger.valueOf(switch (word) {
                    case "buyer" -> i;
                    case "temper" -> b.temper;
                    case "grains" -> b.grains;
                    case "waits" -> b.waits;
                    case "still" -> s.still[s.day % s.round];
                    case "next" -> s.still[(s.day + 1) % s.round];
                    case "shelf" -> s.shelf;
                    case "bought" -> b.bought;
                    case "met" -> b.met;
                    case "since" -> b.last == null ? 99 : s.day - b.last;
                    case "sold" -> s.sold();
                    case "clock" -> s.day % s.round;
                    default -> s.day;
                });
            };
        }
    }

    // ---- the calls ----

    static boolean in(int v, int least, int most) {
        return least <= v && v <= most;
    }

    boolean isBuyer(int b) {
        return now != null && in(b, 0, now.buyers.size() - 1);
    }

    boolean isClock(int c) {
        return now != null && in(c, 0, now.round - 1);
    }

    List<Clause> law() {
        return inForce < 0 ? null : rules.get(inForce);
    }

    static int bits(List<Integer> who) {
        int bits = 0;
        for (int w : who) bits += 1 << w;
        return bits;
    }

    int feed(int a, int b, int c, int d, int e) {
        if (tape.size() > 380) return -1;
        for (int v : new int[] {a, b, c, d, e}) {
            tape.add(v >>> 24);
            tape.add(v >>> 16 & 255);
            tape.add(v >>> 8 & 255);
            tape.add(v & 255);
        }
        return tape.size();
    }

    int end(int n) {
        if (!in(n, 0, tape.size())) return -1;
        tape.subList(n, tape.size()).clear();
        return n;
    }

    int book() {
        List<Integer> text = List.copyOf(tape);
        tape.clear();
        try {
            begin = readBook(text);
        } catch (Fault f) {
            return -2 - f.number;
        }
        now = begin.copy();
        notes = new ArrayList<>();
        past.clear();
        return now.buyers.size();
    }

    int rule() {
        if (rules.size() == 6) return -1;
        List<Integer> text = List.copyOf(tape);
        tape.clear();
        try {
            rules.add(new RuleText(text).all());
        } catch (Fault f) {
            return -2 - f.number;
        }
        return rules.size() - 1;
    }

    int force(int rule) {
        if (!in(rule, -1, rules.size() - 1)) return -2;
        int was = inForce;
        inForce = rule;
        return was;
    }

    int buyer(int buyer, int what) {
        if (!isBuyer(buyer) || !in(what, 0, 5)) return -1;
        Buyer b = now.buyers.get(buyer);
        int since = b.last == null ? 99 : now.day - b.last;
        return new int[] {b.temper, b.grains, b.waits, b.bought, b.met, since > 99 ? 99 : since}[what];
    }

    int sky(int clock, int what) {
        if (!isClock(clock) || !in(what, 0, 1)) return -1;
        if (what == 0) return now.still[clock];
        int bits = 0;
        for (int b = 0; b < 6; b++) if (now.meets[clock][b]) bits |= 1 << b;
        return bits;
    }

    void act() {
        past.addLast(now.copy());
        if (past.size() > 20) past.removeFirst();
    }

    int day() {
        if (now == null || now.day == 999) return -1;
        act();
        return bits(now.pass(law()));
    }

    int sell(int buyer) {
        if (!isBuyer(buyer) || now.shelf < now.buyers.get(buyer).grains) return -1;
        act();
        now.buy(buyer);
        return now.shelf;
    }

    int calm(int buyer, int much) {
        if (!isBuyer(buyer) || !in(much, 1, 20) || now.buyers.get(buyer).temper < much) return -1;
        act();
        return now.buyers.get(buyer).temper -= much;
    }

    int watch(int clock, int buyer) {
        if (!isClock(clock) || !isBuyer(buyer)) return -1;
        act();
        now.meets[clock][buyer] = !now.meets[clock][buyer];
        return now.meets[clock][buyer] ? 1 : 0;
    }

    int change(int clock, int still) {
        if (!isClock(clock) || !in(still, 0, 9) || now.still[clock] == still) return -1;
        act();
        int was = now.still[clock];
        now.still[clock] = still;
        return was;
    }

    int undo() {
        if (past.isEmpty()) return -1;
        now = past.removeLast();
        return past.size();
    }

    int ahead(int buyer, int n, int what) {
        if (now == null || !in(n, 0, 100) || !in(what, 0, 2) || what < 2 && !isBuyer(buyer)) return -1;
        State s = now.copy();
        for (int i = 0; i < n; i++) s.pass(law());
        return what == 2 ? s.shelf : what == 1 ? s.buyers.get(buyer).bought : s.buyers.get(buyer).temper;
    }

    int buys(int buyer) {
        if (!isBuyer(buyer)) return -1;
        State s = now.copy();
        for (int i = 0; i < 200; i++) {
            int day = s.day;
            if (s.pass(law()).contains(buyer)) return day;
        }
        return -2;
    }

    int empty() {
        if (now == null) return -1;
        State s = now.copy();
        for (int i = 0; i < 200; i++, s.pass(law())) if (s.shelf == 0) return s.day;
        return -2;
    }

    int tells(int n, int what) {
        if (now == null || !in(n, 1, 100) || !in(what, 0, 1)) return -1;
        State s = now.copy();
        int all = 0, those = 0;
        for (int i = 0; i < n; i++) {
            int still = s.still[s.day % s.round];
            int times = s.pass(law()).size();
            all += times;
            if (still >= 5) those += times;
        }
        if (all == 0) return what;
        int g = BigInteger.valueOf(all).gcd(BigInteger.valueOf(those)).intValue();
        return (what == 0 ? those : all) / g;
    }

    /** What is sold in n days, after something has been done to a copy. */
    int soldAfter(int n, java.util.function.Consumer<State> first) {
        State s = now.copy();
        first.accept(s);
        int before = s.sold();
        for (int i = 0; i < n; i++) s.pass(law());
        return s.sold() - before;
    }

    static void guardOn(State s, int clock) {
        Arrays.fill(s.meets[clock], 0, s.buyers.size(), true);
    }

    int guard(int n, int what) {
        if (now == null || !in(n, 1, 30) || !in(what, 0, 1)) return -1;
        int found = -1;
        for (int set = 0; set < 1 << now.round; set++) {
            if (found >= 0 && Integer.bitCount(set) >= Integer.bitCount(found)) continue;
            int guarded = set;
            int sold = soldAfter(n, s -> {
                for (int c = 0; c < s.round; c++) if ((guarded & 1 << c) != 0) guardOn(s, c);
            });
            if (sold == 0) found = set;
        }
        return what == 0 ? Integer.bitCount(found) : found;
    }

    int argumentOfLeast(int what, int choices, ToIntFunction<Integer> sold) {
        int best = -1, fewest = sold.applyAsInt(-1);
        for (int c = 0; c < choices; c++) {
            int s = sold.applyAsInt(c);
            if (s < fewest) {
                fewest = s;
                best = c;
            }
        }
        return what == 0 ? best : fewest;
    }

    int best(int n, int what) {
        if (now == null || !in(n, 1, 100) || !in(what, 0, 1)) return -2;
        return argumentOfLeast(what, now.round, c -> soldAfter(n, s -> {
            if (c >= 0) guardOn(s, c);
        }));
    }

    int least(int buyer, int n) {
        if (!isBuyer(buyer) || !in(n, 1, 60)) return -1;
        for (int t = 0; t <= 20; t++) {
            State s = now.copy();
            s.buyers.get(buyer).temper = t;
            int before = s.buyers.get(buyer).bought;
            for (int i = 0; i < n; i++) s.pass(law());
            if (s.buyers.get(buyer).bought > before) return t;
        }
        return -2;
    }

    int soothe(int n, int what) {
        if (now == null || !in(n, 1, 60) || !in(what, 0, 1)) return -2;
        return argumentOfLeast(what, now.buyers.size(), b -> soldAfter(n, s -> {
            if (b >= 0) s.buyers.get(b).temper = 0;
        }));
    }

    int page(int grains, int what) {
        if (now == null || !in(grains, 0, 60) || !in(what, 0, 2)) return -1;
        List<Integer> sets = new ArrayList<>();
        for (int set = 0; set < 1 << now.buyers.size(); set++) {
            int sum = 0;
            for (int b = 0; b < now.buyers.size(); b++) if ((set & 1 << b) != 0) sum += now.buyers.get(b).grains;
            if (sum == grains) sets.add(set);
        }
        if (what == 0) return sets.size();
        if (what == 1) return sets.isEmpty() ? -2 : sets.get(0);
        return sets.stream().reduce((a, b) -> a & b).orElse(0);
    }

    int fines(int much, int buyer) {
        if (!in(much, 0, 9999) || !isBuyer(buyer)) return -1;
        int all = now.sold();
        if (all == 0) return 0;
        int k = now.buyers.size();
        int[] part = new int[k], lost = new int[k];
        int left = much;
        for (int b = 0; b < k; b++) {
            part[b] = much * now.buyers.get(b).bought / all;
            lost[b] = much * now.buyers.get(b).bought - part[b] * all;
            left -= part[b];
        }
        List<Integer> order = new ArrayList<>();
        for (int b = 0; b < k; b++) order.add(b);
        order.sort((a, b) -> lost[b] - lost[a]);
        for (int i = 0; i < left; i++) part[order.get(i)]++;
        return part[buyer];
    }

    int rests(int one, int other, int n, int what) {
        if (!isBuyer(one) || !isBuyer(other) || one == other || !in(n, 1, 30) || !in(what, 0, 2)) return -1;
        int[][][] has = new int[10][10][];
        for (int a = 1; a < 10; a += 2) {
            for (int b = 1; b < 10; b += 2) {
                State s = now.copy();
                s.buyers.get(one).grains = a;
                s.buyers.get(other).grains = b;
                for (int i = 0; i < n; i++) s.pass(law());
                has[a][b] = new int[] {has(s, one), has(s, other)};
            }
        }
        List<int[]> found = new ArrayList<>();
        for (int a = 1; a < 10; a += 2) {
            for (int b = 1; b < 10; b += 2) {
                boolean rests = true;
                for (int c = 1; c < 10; c += 2) {
                    rests &= has[c][b][0] <= has[a][b][0] && has[a][c][1] <= has[a][b][1];
                }
                if (rests) found.add(new int[] {found.size(), a, b});
            }
        }
        if (what == 0) return found.size();
        return found.isEmpty() ? -2 : found.get(0)[what];
    }

    int has(State s, int buyer) {
        Buyer then = s.buyers.get(buyer), first = now.buyers.get(buyer);
        return then.bought - first.bought - 4 * (then.met - first.met);
    }

    int ring(int what) {
        if (now == null || !in(what, 0, 1)) return -1;
        State s = now.copy();
        List<List<Integer>> seen = new ArrayList<>();
        for (int i = 0; i <= 60; i++, s.pass(law())) {
            List<Integer> mark = new ArrayList<>(List.of(s.shelf));
            for (Buyer b : s.buyers) mark.add(b.temper);
            seen.add(mark);
        }
        for (int i = 0; i < 60; i++) {
            int later = seen.subList(i + 1, 61).indexOf(seen.get(i));
            if (later >= 0) return what == 0 ? now.day + i : later + 1;
        }
        return -2;
    }

    int peak(int n, int what) {
        if (now == null || !in(n, 1, 100) || !in(what, 0, 1)) return -1;
        State s = now.copy();
        TreeMap<Integer, Integer> firstBySold = new TreeMap<>();
        for (int i = 0; i < n; i++) {
            int day = s.day, before = s.sold();
            s.pass(law());
            firstBySold.putIfAbsent(s.sold() - before, day);
        }
        return what == 0 ? firstBySold.lastEntry().getValue() : firstBySold.lastKey();
    }

    int note(int n, int buyer, int bought) {
        if (n == -1) {
            notes.clear();
            return 0;
        }
        if (!in(n, 0, 60) || !isBuyer(buyer) || !in(bought, 0, 1) || notes.size() == 10) return -2;
        notes.add(new Note(n, buyer, bought));
        return notes.size();
    }

    /** Of each of none and the RULES that is as the NOTES say: who buys on which DAY. */
    TreeMap<Integer, List<List<Integer>>> fitting() {
        TreeMap<Integer, List<List<Integer>>> fitting = new TreeMap<>();
        for (int r = -1; r < rules.size(); r++) {
            State s = begin.copy();
            List<List<Integer>> who = new ArrayList<>();
            for (int d = 0; d <= 60; d++) who.add(s.pass(r < 0 ? null : rules.get(r)));
            if (notes.stream().allMatch(x -> who.get(x.n).contains(x.buyer) == (x.bought == 1))) fitting.put(r, who);
        }
        return fitting;
    }

    int ruled(int what) {
        if (now == null || !in(what, 0, 1)) return -3;
        var fitting = fitting();
        return what == 0 ? fitting.size() : fitting.isEmpty() ? -2 : fitting.firstKey();
    }

    int look(int what) {
        if (now == null || !in(what, 0, 1)) return -1;
        var fitting = fitting();
        if (fitting.isEmpty()) return -2;
        int best = -1, fewest = 100;
        for (int d = 0; d <= 60; d++) {
            Map<List<Integer>, Integer> groups = new HashMap<>();
            for (var who : fitting.values()) groups.merge(who.get(d), 1, Integer::sum);
            int most = groups.values().stream().max(Integer::compare).get();
            if (most < fewest) {
                fewest = most;
                best = d;
            }
        }
        return what == 0 ? best : fewest;
    }

    int seed(int number) {
        if (number < 0) return -1;
        int was = (int) x;
        x = number;
        return was;
    }

    int summers(int m, int n, int p, int what) {
        if (now == null || !in(m, 1, 10) || !in(n, 1, 60) || !in(p, 0, 100) || !in(what, 0, 1)) return -1;
        long was = x;
        int sold = 0, shelf = 0;
        for (int time = 0; time < m; time++) {
            State s = now.copy();
            for (int i = 0; i < n; i++) {
                if (drawn() % 100 < p) s.still[s.day % s.round] = drawn() % 10;
                s.pass(law());
            }
            sold += s.sold() - now.sold();
            shelf += s.shelf;
        }
        x = was;
        return what == 0 ? sold : shelf;
    }

    int drawn() {
        x = BigInteger.valueOf(x).multiply(BigInteger.valueOf(1103515245)).add(BigInteger.valueOf(12345))
                .mod(BigInteger.ONE.shiftLeft(31)).longValue();
        return (int) (x / 65536);
    }

    int count(int what) {
        State s = now;
        switch (what) {
            case 3: return rules.size();
            case 4: return inForce;
            case 12: return notes.size();
            case 13: return past.size();
            case 14: return (int) x;
            case 15: return tape.size();
            default: if (s == null) return in(what, 0, 15) ? 0 : -1;
        }
        switch (what) {
            case 0: return s.fill;
            case 1: return s.round;
            case 2: return s.buyers.size();
            case 5: return s.day;
            case 6: return s.day % s.round;
            case 7: return s.shelf;
            case 8: return s.still[s.day % s.round];
            case 9: return s.sold();
            case 10: return s.buyers.stream().mapToInt(b -> b.met).sum();
            case 11:
                List<Integer> who = new ArrayList<>();
                for (int b = 0; b < s.buyers.size(); b++) if (s.can(b)) who.add(b);
                return bits(who);
            default: return -1;
        }
    }

    static State copyOf(State s) {
        return s == null ? null : s.copy();
    }

    int image(int k) {
        if (!in(k, 0, 3)) return -1;
        images.put(k, new Saved(copyOf(now), begin, List.copyOf(notes), inForce, x));
        return count(5);
    }

    int back(int k) {
        Saved saved = images.get(k);
        if (saved == null) return -1;
        now = copyOf(saved.now);
        begin = saved.begin;
        notes = new ArrayList<>(saved.notes);
        inForce = saved.inForce;
        x = saved.x;
        past.clear();
        return count(5);
    }
}
