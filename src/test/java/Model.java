import java.math.BigInteger;
import java.util.ArrayDeque;
import java.util.ArrayList;
import java.util.Arrays;
import java.util.Deque;
import java.util.List;
import java.util.function.Predicate;
import java.util.regex.Matcher;
import java.util.regex.Pattern;

/**
 * The document told a second time, slowly and by other means (moments that never change, all futures
 * written out, KINDS as Java classes), to hold random runs of SheepSquare against.
 */
final class Model {
    static final int NONE = -1000000, BAD = -1000001, STATE = -1000002, FULL = -1000003;

    record Sheep(int number, int loud, int coat) {
        boolean bell() {
            return coat >= 2;
        }

        boolean white() {
            return coat == 0 || coat == 2;
        }
    }

    record Man(int kind, int needs, int side, int counted, boolean off) {
        Man as(int other) {
            return new Man(other, needs, side, counted, off);
        }

        Man awake() {
            return new Man(kind, needs, side, 0, false);
        }

        boolean hears(Sheep sheep, int wind) {
            return side == 0 || sheep.loud > wind;
        }

        Man behind(Sheep sheep, int wind) {
            int has = counted;
            boolean stillOff = off;
            if (hears(sheep, wind)) {
                boolean reset = kind >= 4 && sheep.bell();
                int more = kind == 2 && sheep.white() ? 2 : kind == 3 && sheep.bell() ? 0 : 1;
                has = reset ? 0 : Math.min(99, has + more);
                if (reset && kind == 5) stillOff = false;
            }
            return new Man(kind, needs, side, has, stillOff || has >= needs);
        }
    }

    record Moment(int step, int wind, List<Sheep> row, List<Man> men) {
        Moment next() {
            Sheep sheep = row.get(step % row.size());
            return new Moment(step + 1, wind, row, men.stream().map(m -> m.behind(sheep, wind)).toList());
        }

        int off() {
            int bits = 0;
            for (int i = 0; i < men.size(); i++) if (men.get(i).off) bits |= 1 << i;
            return bits;
        }

        Moment with(int otherWind) {
            return new Moment(step, otherWind, row, men);
        }

        Moment with(List<Sheep> otherRow) {
            return new Moment(step, wind, otherRow, men);
        }

        Moment with(int number, Man man) {
            List<Man> others = new ArrayList<>(men);
            others.set(number, man);
            return new Moment(step, wind, row, List.copyOf(others));
        }

        Moment only(int flock) {
            return with(row.stream().filter(s -> (flock >> s.number & 1) != 0).toList());
        }

        List<Moment> future(int d) {
            List<Moment> all = new ArrayList<>(List.of(this));
            for (int i = 0; i < d; i++) all.add(all.get(i).next());
            return all;
        }

        int first(int d, Predicate<Moment> what) {
            Moment at = this;
            for (int i = 0; i <= d; i++, at = at.next()) if (what.test(at)) return i;
            return NONE;
        }

        int all(int who, int d) {
            return first(d, m -> (m.off() & who) == who);
        }
    }

    private final int[][] rows = new int[8][];
    private final int[] lanes = new int[8];
    private final StringBuilder tape = new StringBuilder();
    private int fault = 0;
    private int status = 0;
    private Moment now = null;
    private final Deque<Moment> acts = new ArrayDeque<>();
    private final Moment[] images = new Moment[2];
    private List<Integer> trace = List.of();

    private boolean row(int r) {
        return r >= 0 && r < 8;
    }

    private boolean man(int s) {
        return now != null && s >= 0 && s < now.men.size();
    }

    private boolean men(int bits) {
        return bits >= 0 && bits < 1 << now.men.size();
    }

    private static boolean in(int v, int least, int most) {
        return v >= least && v <= most;
    }

    private int found(int number) {
        status = number;
        return -1000010 - number;
    }

    private int fine(int answer) {
        status = 0;
        return answer;
    }

    private void act(Moment then) {
        acts.push(now);
        if (acts.size() > 24) acts.removeLast();
        now = then;
    }

    int call(String name, int[] a) {
        return switch (name) {
            case "row", "set", "copy", "drop" -> rowCall(name, a);
            case "feed" -> {
                if (!in(a[0], 0, 255)) yield BAD;
                if (tape.length() == 100) yield FULL;
                tape.append((char) a[0]);
                yield tape.length();
            }
            case "square" -> square();
            case "fault" -> fault;
            case "steps", "change", "wind", "cough", "undo" -> actCall(name, a);
            case "sleeper" -> sleeper(a[0], a[1]);
            case "sheep" -> sheep(a[0], a[1]);
            case "missing", "windy", "sorts" -> rowTells(name, a);
            case "kind" -> man(a[0]) ? now.men.get(a[0]).kind : BAD;
            case "as" -> as(a[0], a[1]);
            case "ask" -> ask(a[0], a[1]);
            case "trace" -> in(a[0], 0, trace.size() - 1) ? trace.get(a[0]) : NONE;
            case "count" -> count(a[0]);
            case "status" -> status;
            case "image" -> {
                if (!in(a[0], 0, 1)) yield BAD;
                if (now == null) yield STATE;
                images[a[0]] = now;
                yield 1;
            }
            case "restore" -> {
                if (!in(a[0], 0, 1)) yield BAD;
                if (images[a[0]] == null) yield STATE;
                now = images[a[0]];
                acts.clear();
                yield 1;
            }
            default -> foretold(name, a);
        };
    }

    private int rowCall(String name, int[] a) {
        if (!row(a[0])) return BAD;
        int[] items = rows[a[0]];
        if (name.equals("row")) {
            if (!in(a[1], 0, 2) || a[2] > 40) return BAD;
            if (a[2] < 0) return found(4);
            rows[a[0]] = new int[a[2]];
            lanes[a[0]] = a[1];
            return fine(a[2]);
        }
        if (name.equals("copy") && !row(a[2])) return BAD;
        if (items == null) return found(1);
        if (name.equals("drop")) {
            rows[a[0]] = null;
            return fine(items.length);
        }
        if (name.equals("set")) {
            if (!in(a[1], 0, items.length - 1)) return found(2);
            int lane = lanes[a[0]];
            items[a[1]] = lane == 0 ? (byte) a[2] : lane == 1 ? (short) a[2] : a[2];
            return fine(items[a[1]]);
        }
        int[] to = rows[a[2]];
        if (to == null) return found(1);
        if (lanes[a[0]] != lanes[a[2]]) return found(5);
        long i = a[1], j = a[3], n = a[4];
        if (i < 0 || j < 0 || n < 0 || i + n > items.length || j + n > to.length) return found(2);
        int[] ahead = items.clone();
        for (int k = 0; k < n; k++) to[(int) j + k] = ahead[(int) i + k];
        return fine(a[4]);
    }

    // ---- texts

    private record Token(int place, String text) {
        boolean number() {
            return text.matches("[0-9]{1,2}");
        }

        boolean is(String letters) {
            return text.length() == 1 && letters.contains(text);
        }
    }

    private static final class Faulty extends Exception {
        private static final long serialVersionUID = 1;
        final int number, place;

        Faulty(int number, int place) {
            this.number = number;
            this.place = place;
        }
    }

    private static Token sign(List<Token> tokens, String due) throws Faulty {
        Token t = tokens.remove(0);
        if (!t.is(due)) throw new Faulty(1, t.place);
        return t;
    }

    private static int number(List<Token> tokens, int least, int most) throws Faulty {
        Token t = tokens.remove(0);
        if (!t.number()) throw new Faulty(1, t.place);
        int v = Integer.parseInt(t.text);
        if (!in(v, least, most)) throw new Faulty(2, t.place);
        return v;
    }

    private int square() {
        List<Token> tokens = new ArrayList<>();
        Matcher m = Pattern.compile("[0-9]+|.", Pattern.DOTALL).matcher(tape);
        while (m.find()) tokens.add(new Token(m.start(), m.group()));
        tokens.add(new Token(tape.length(), ""));
        tape.setLength(0);
        try {
            now = parse(tokens);
            acts.clear();
            return now.men.size();
        } catch (Faulty f) {
            fault = f.number;
            return -1000100 - f.place;
        }
    }

    private static Moment parse(List<Token> tokens) throws Faulty {
        List<Sheep> flock = new ArrayList<>();
        List<Man> men = new ArrayList<>();
        sign(tokens, "q");
        int wind = number(tokens, 0, 9);
        sign(tokens, ";");
        do {
            Token f = sign(tokens, "f");
            if (flock.size() == 6) throw new Faulty(3, f.place);
            int loud = number(tokens, 0, 9);
            sign(tokens, ",");
            int coat = number(tokens, 0, 3);
            sign(tokens, ";");
            flock.add(new Sheep(flock.size(), loud, coat));
        } while (tokens.get(0).is("f"));
        while (tokens.get(0).is("pdtnl")) {
            Token sort = sign(tokens, "pdtnl");
            if (men.size() == 5) throw new Faulty(3, sort.place);
            int needs = number(tokens, 1, 60);
            sign(tokens, ",");
            int side = number(tokens, 0, 1);
            sign(tokens, ";");
            men.add(new Man(1 + "pdtnl".indexOf(sort.text), needs, side, 0, false));
        }
        if (!tokens.get(0).text.isEmpty()) throw new Faulty(1, tokens.get(0).place);
        return new Moment(0, wind, List.copyOf(flock), List.copyOf(men));
    }

    // ---- acts

    private int actCall(String name, int[] a) {
        switch (name) {
            case "steps":
                if (now == null) return STATE;
                if (!in(a[0], 1, 24)) return BAD;
                if (now.step + a[0] > 9999) return FULL;
                for (int i = 0; i < a[0]; i++) act(now.next());
                return now.off();
            case "change":
                if (now == null || !in(a[0], 0, now.row.size() - 1)) return BAD;
                if (a[0] + 1 == now.row.size()) return STATE;
                List<Sheep> row = new ArrayList<>(now.row);
                row.add(a[0], row.remove(a[0] + 1));
                act(now.with(row));
                return row.get(a[0]).number;
            case "wind":
                if (now == null) return STATE;
                if (!in(a[0], 0, 9)) return BAD;
                act(now.with(a[0]));
                return acts.peek().wind;
            case "cough":
                if (!man(a[0])) return BAD;
                act(now.with(a[0], now.men.get(a[0]).awake()));
                return acts.peek().men.get(a[0]).counted;
            default:
                if (acts.isEmpty()) return STATE;
                now = acts.pop();
                return acts.size();
        }
    }

    private int sleeper(int s, int what) {
        if (!man(s) || !in(what, 0, 4)) return BAD;
        Man man = now.men.get(s);
        int heard = 0;
        for (Sheep sheep : now.row) if (man.hears(sheep, now.wind)) heard += 1 << sheep.number;
        return new int[] {man.needs, man.side, man.counted, man.off ? 1 : 0, heard}[what];
    }

    private int sheep(int h, int what) {
        if (now == null || !in(h, 0, now.row.size() - 1) || !in(what, 0, 2)) return BAD;
        int place = 0;
        while (now.row.get(place).number != h) place++;
        Sheep sheep = now.row.get(place);
        return new int[] {sheep.loud, sheep.coat, place}[what];
    }

    private int count(int what) {
        if (what == 0) return (int) Arrays.stream(rows).filter(r -> r != null).count();
        if (what == 7) return tape.length();
        if (!in(what, 0, 7)) return BAD;
        if (now == null) return 0;
        int off = (int) now.men.stream().filter(Man::off).count();
        return new int[] {0, now.row.size(), now.men.size(), now.step, now.wind, off, acts.size()}[what];
    }

    // ---- foretold

    private int foretold(String name, int[] a) {
        boolean ofOne = List.of("counted", "when", "stay").contains(name);
        if (ofOne && !man(a[0])) return BAD;
        if (now == null) return STATE;
        switch (name) {
            case "off":
                return in(a[0], 0, 99) ? now.future(a[0]).get(a[0]).off() : BAD;
            case "counted":
                return in(a[1], 0, 99) ? now.future(a[1]).get(a[1]).men.get(a[0]).counted : BAD;
            case "when":
                return now.first(99, m -> m.men.get(a[0]).off);
            case "all":
                return men(a[0]) ? now.all(a[0], 99) : BAD;
            case "never":
                int never = 0;
                for (int s = 0; s < now.men.size(); s++) if (foretold("when", new int[] {s}) == NONE) never |= 1 << s;
                return never;
            case "quiet":
                if (!in(a[0], 0, 5)) return BAD;
                return now.first(99, m -> m.future(6).stream().allMatch(n -> Integer.bitCount(n.off()) >= a[0]));
            case "order":
                return men(a[0]) && in(a[1], -1, 5) ? order(a[0], a[1]) : BAD;
            case "fewest":
                return men(a[0]) && in(a[1], 0, 99) && in(a[2], 0, 1) ? fewest(a[0], a[1], a[2]) : BAD;
            case "stay":
                return in(a[1], 0, 99) && in(a[2], 0, 10) && in(a[3], 0, 1) ? stay(a[0], a[1], a[2], a[3]) : BAD;
            default:
                throw new IllegalArgumentException(name);
        }
    }

    private static void orders(List<Sheep> left, List<Sheep> taken, List<List<Sheep>> into) {
        if (left.isEmpty()) into.add(List.copyOf(taken));
        for (Sheep one : left) {
            List<Sheep> rest = new ArrayList<>(left), more = new ArrayList<>(taken);
            rest.remove(one);
            more.add(one);
            orders(rest, more, into);
        }
    }

    private int order(int who, int k) {
        List<Sheep> byNumber = new ArrayList<>(now.row);
        byNumber.sort((x, y) -> x.number - y.number);
        List<List<Sheep>> orders = new ArrayList<>();
        orders(byNumber, List.of(), orders);
        int behind = NONE;
        List<Sheep> best = List.of();
        for (List<Sheep> one : orders) {
            int t = now.with(one).all(who, 99);
            if (t == NONE || behind != NONE && t >= behind) continue;
            behind = t;
            best = one;
        }
        return k == -1 ? behind : k < best.size() ? best.get(k).number : NONE;
    }

    private int fewest(int who, int d, int what) {
        for (int size = 1; size <= now.row.size(); size++) {
            for (int flock = 0; flock < 64; flock++) {
                boolean there = flock >> now.row.size() == 0 && Integer.bitCount(flock) == size;
                if (there && now.only(flock).all(who, d) != NONE) return what == 0 ? size : flock;
            }
        }
        return NONE;
    }

    private int stay(int s, int d, int c, int what) {
        long above = likely(now.row.subList(0, 1), 1, s, d, c);
        BigInteger below = BigInteger.TEN.pow(now.row.size() - 1);
        BigInteger gcd = below.gcd(BigInteger.valueOf(above));
        return (what == 0 ? BigInteger.valueOf(above) : below).divide(gcd).intValueExact();
    }

    private long likely(List<Sheep> there, int place, int s, int d, int c) {
        if (place == now.row.size()) return now.with(there).future(d).get(d).men.get(s).off ? 1 : 0;
        List<Sheep> more = new ArrayList<>(there);
        more.add(now.row.get(place));
        return c * likely(there, place + 1, s, d, c) + (10 - c) * likely(more, place + 1, s, d, c);
    }

    private int rowTells(String name, int[] a) {
        int skip = name.equals("sorts") ? 1 : 0;
        int r = a[skip], i = a[skip + 1], n = a[skip + 2];
        if (skip == 1 && !man(a[0])) return BAD;
        if (now == null) return STATE;
        if (!row(r) || !in(n, 1, 16)) return BAD;
        if (rows[r] == null) return found(1);
        if (i < 0 || (long) i + n > rows[r].length) return found(2);
        int[] told = Arrays.copyOfRange(rows[r], i, i + n);
        int bits = 0;
        int size = now.row.size();
        switch (name) {
            case "missing":
                for (int h = 0; h < size && size > 1; h++) if (so(now.only(63 & ~(1 << h)), told)) bits |= 1 << h;
                break;
            case "windy":
                for (int w = 0; w < 10; w++) if (so(now.with(w), told)) bits |= 1 << w;
                break;
            default:
                for (int k = 1; k < 6; k++) if (so(now.with(a[0], now.men.get(a[0]).as(k)), told)) bits |= 1 << k;
        }
        return fine(bits);
    }

    private static boolean so(Moment from, int[] told) {
        List<Moment> future = from.future(told.length);
        for (int i = 0; i < told.length; i++) if (Integer.bitCount(future.get(i + 1).off()) != told[i]) return false;
        return true;
    }

    // ---- asked

    interface Sleeper {
        Man man();

        int number();

        List<Integer> left();

        default int size() {
            left().add(10);
            return man().needs;
        }

        default int mark() {
            left().add(20);
            return number();
        }
    }

    static class Base implements Sleeper {
        private final Man man;
        private final int number;
        private final List<Integer> left;

        Base(Man man, int number, List<Integer> left) {
            this.man = man;
            this.number = number;
            this.left = left;
        }

        @Override public Man man() {
            return man;
        }

        @Override public int number() {
            return number;
        }

        @Override public List<Integer> left() {
            return left;
        }
    }

    static class Plain extends Base {
        Plain(Man man, int number, List<Integer> left) {
            super(man, number, left);
        }

        @Override public int size() {
            left().add(11);
            return super.size() + mark();
        }

        @Override public int mark() {
            left().add(21);
            return super.mark() + man().counted;
        }
    }

    static class Deep extends Plain {
        Deep(Man man, int number, List<Integer> left) {
            super(man, number, left);
        }

        @Override public int size() {
            left().add(12);
            return -super.size();
        }

        @Override public int mark() {
            left().add(24);
            return super.mark() * 2;
        }
    }

    static class Tea extends Plain {
        Tea(Man man, int number, List<Integer> left) {
            super(man, number, left);
        }

        @Override public int mark() {
            left().add(22);
            return super.mark() - 1000;
        }
    }

    static class Nervous extends Base {
        Nervous(Man man, int number, List<Integer> left) {
            super(man, number, left);
        }

        @Override public int size() {
            left().add(13);
            return super.size() - 100;
        }

        @Override public int mark() {
            left().add(23);
            return super.mark() - size();
        }
    }

    static class Light extends Nervous {
        Light(Man man, int number, List<Integer> left) {
            super(man, number, left);
        }

        @Override public int size() {
            left().add(14);
            return super.size() * 2;
        }
    }

    private Sleeper object(int s, List<Integer> left) {
        Man m = now.men.get(s);
        return switch (m.kind) {
            case 1 -> new Plain(m, s, left);
            case 2 -> new Deep(m, s, left);
            case 3 -> new Tea(m, s, left);
            case 4 -> new Nervous(m, s, left);
            default -> new Light(m, s, left);
        };
    }

    private int ask(int s, int what) {
        if (!man(s) || !in(what, 0, 1)) return BAD;
        List<Integer> left = new ArrayList<>();
        Sleeper one = object(s, left);
        int answer = what == 0 ? one.size() : one.mark();
        trace = left;
        return answer;
    }

    private int as(int s, int kind) {
        if (!man(s) || !in(kind, 0, 5)) return BAD;
        List<Class<?>> kinds = List.of(Sleeper.class, Plain.class, Deep.class, Tea.class, Nervous.class, Light.class);
        return kinds.get(kind).isInstance(object(s, new ArrayList<>())) ? fine(s) : found(3);
    }
}
