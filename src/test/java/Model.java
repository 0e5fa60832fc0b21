import java.math.BigInteger;
import java.util.ArrayDeque;
import java.util.ArrayList;
import java.util.Comparator;
import java.util.Deque;
import java.util.List;
import java.util.regex.Matcher;
import java.util.regex.Pattern;

/** The document once more, told another way: objects, copies and the Java library. ModelTest compares. */
final class Model {
    static final int NONE = -1000000, BAD = -1000001, STATE = -1000002, FULL = -1000003;

    // ---- debtors, a class for each kind

    static class Person implements Cloneable {
        int number, wage, wants, stop, debt, paid, took;
        boolean gone, crossed;

        int due(int week) {
            return 0;
        }

        boolean flees() {
            return false;
        }

        int size(List<Integer> trace) {
            trace.add(10);
            return debt;
        }

        int mark(List<Integer> trace) {
            trace.add(20);
            return number;
        }

        boolean comes() {
            return !gone && !crossed;
        }

        Person twin() {
            try {
                return (Person) clone();
            } catch (CloneNotSupportedException e) {
                throw new IllegalStateException(e);
            }
        }

        Person as(int kind) {
            Person other = ofKind(kind);
            other.number = number;
            other.wage = wage;
            other.wants = wants;
            other.stop = stop;
            other.debt = debt;
            other.paid = paid;
            other.took = took;
            other.gone = gone;
            other.crossed = crossed;
            return other;
        }
    }

    static class Steady extends Person {
        @Override int due(int week) {
            return Math.min(wage, debt);
        }

        @Override int size(List<Integer> trace) {
            trace.add(11);
            int first = super.size(trace);
            return first + mark(trace);
        }

        @Override int mark(List<Integer> trace) {
            trace.add(21);
            return super.mark(trace) + wage;
        }
    }

    static final class Rolling extends Steady {
        @Override int due(int week) {
            return Math.min(debt / 2, wage);
        }

        @Override int size(List<Integer> trace) {
            trace.add(12);
            return 0 - super.size(trace);
        }

        @Override int mark(List<Integer> trace) {
            trace.add(24);
            int once = super.mark(trace);
            return once + once;
        }
    }

    static final class Hay extends Steady {
        @Override int due(int week) {
            return week % 4 == 3 ? super.due(week) : 0;
        }

        @Override int mark(List<Integer> trace) {
            trace.add(22);
            return super.mark(trace) - 1000;
        }
    }

    static class Twice extends Person {
        @Override int due(int week) {
            return Math.min(wage / 2, debt);
        }

        @Override int size(List<Integer> trace) {
            trace.add(13);
            return super.size(trace) - 100;
        }

        @Override int mark(List<Integer> trace) {
            trace.add(23);
            int first = super.mark(trace);
            return first - size(trace);
        }
    }

    static final class Rogue extends Twice {
        @Override boolean flees() {
            return debt > 0 && debt >= stop;
        }

        @Override int size(List<Integer> trace) {
            trace.add(14);
            int once = super.size(trace);
            return once + once;
        }
    }

    static Person ofKind(int kind) {
        switch (kind) {
            case 1: return new Steady();
            case 2: return new Rolling();
            case 3: return new Hay();
            case 4: return new Twice();
            default: return new Rogue();
        }
    }

    static int kindOf(Person p) {
        if (p instanceof Rogue) return 5;
        if (p instanceof Twice) return 4;
        if (p instanceof Hay) return 3;
        return p instanceof Rolling ? 2 : 1;
    }

    static final Class<?>[] KINDS =
        {Person.class, Steady.class, Rolling.class, Hay.class, Twice.class, Rogue.class};

    // ---- a shop

    static final class Store {
        int cash, dearer, every, owed, strike, week;
        boolean shut;
        List<Person> people = new ArrayList<>();

        Store twin() {
            Store s = new Store();
            s.cash = cash;
            s.dearer = dearer;
            s.every = every;
            s.owed = owed;
            s.strike = strike;
            s.week = week;
            s.shut = shut;
            for (Person p : people) s.people.add(p.twin());
            return s;
        }

        /** Who paid how much. */
        int[] week() {
            int[] paid = new int[6];
            if (!shut) {
                for (Person p : people) {
                    if (!p.comes()) continue;
                    int given = p.wants;
                    int free = p.stop > p.debt ? p.stop - p.debt : 0;
                    if (free < given) given = free;
                    p.debt += given;
                    p.debt += given * dearer / 20;
                    p.took += given;
                    owed += given;
                }
            }
            if (strike == 0) {
                for (Person p : people) {
                    if (!p.comes()) continue;
                    if (p.flees()) {
                        p.gone = true;
                        continue;
                    }
                    int due = p.due(week);
                    p.debt -= due;
                    p.paid += due;
                    cash += due;
                    paid[p.number] = due;
                }
            } else {
                strike--;
            }
            if ((week + 1) % every == 0) {
                cash -= owed;
                owed = 0;
                if (cash < 0) shut = true;
            }
            week++;
            return paid;
        }

        Store after(int n) {
            Store s = twin();
            for (int i = 0; i < n; i++) s.week();
            return s;
        }

        int debts() {
            return people.stream().filter(p -> !p.crossed).mapToInt(p -> p.debt).sum();
        }

        int lost() {
            return people.stream().filter(p -> p.crossed || p.gone).mapToInt(p -> p.debt).sum();
        }
    }

    // ---- the object

    Store store;
    final Store[] images = new Store[2];
    final Deque<Store> past = new ArrayDeque<>();
    final Object[] rows = new Object[8];
    String tape = "";
    int lastFault, finding;
    List<Integer> trace = new ArrayList<>();

    private int found(int n) {
        finding = n;
        return -1000010 - n;
    }

    private static int size(Object row) {
        return row instanceof byte[] b ? b.length : row instanceof short[] s ? s.length : ((int[]) row).length;
    }

    private static int item(Object row, int i) {
        return row instanceof byte[] b ? b[i] : row instanceof short[] s ? s[i] : ((int[]) row)[i];
    }

    int row(int row, int lane, int n) {
        if (row < 0 || row > 7 || lane < 0 || lane > 2 || n > 40) return BAD;
        if (n < 0) return found(4);
        rows[row] = lane == 0 ? new byte[n] : lane == 1 ? (Object) new short[n] : new int[n];
        finding = 0;
        return n;
    }

    int set(int row, int i, int v) {
        if (row < 0 || row > 7) return BAD;
        if (rows[row] == null) return found(1);
        if (i < 0 || i >= size(rows[row])) return found(2);
        if (rows[row] instanceof byte[] b) b[i] = (byte) v;
        else if (rows[row] instanceof short[] s) s[i] = (short) v;
        else ((int[]) rows[row])[i] = v;
        finding = 0;
        return item(rows[row], i);
    }

    int copy(int a, int i, int b, int j, int n) {
        if (a < 0 || a > 7 || b < 0 || b > 7) return BAD;
        if (rows[a] == null || rows[b] == null) return found(1);
        if (rows[a].getClass() != rows[b].getClass()) return found(5);
        if (i < 0 || j < 0 || n < 0 || (long) i + n > size(rows[a]) || (long) j + n > size(rows[b])) return found(2);
        System.arraycopy(rows[a], i, rows[b], j, n);
        finding = 0;
        return n;
    }

    int drop(int row) {
        if (row < 0 || row > 7) return BAD;
        if (rows[row] == null) return found(1);
        int n = size(rows[row]);
        rows[row] = null;
        finding = 0;
        return n;
    }

    int feed(int letter) {
        if (letter < 0 || letter > 255) return BAD;
        if (tape.length() == 120) return FULL;
        tape += (char) letter;
        return tape.length();
    }

    private static final Pattern TOKEN = Pattern.compile("[0-9]+|[^0-9]", Pattern.DOTALL);

    int shop() {
        String text = tape;
        tape = "";
        List<String> tokens = new ArrayList<>();
        List<Integer> places = new ArrayList<>();
        Matcher m = TOKEN.matcher(text);
        while (m.find()) {
            tokens.add(m.group());
            places.add(m.start());
        }
        Store s = new Store();
        for (int t = 0; ; t++) {
            int part = t / 7, step = t % 7;
            boolean end = t == tokens.size();
            if (end && step == 0 && part > 1) break;
            int wrong = end ? 1 : token(s, part, step, tokens.get(t));
            if (wrong > 0) {
                lastFault = wrong;
                return -1000100 - (end ? text.length() : places.get(t));
            }
        }
        store = s;
        past.clear();
        return s.people.size();
    }

    private static int token(Store s, int part, int step, String token) {
        if (step == 0) {
            if (part == 0) return token.equals("f") ? 0 : 1;
            int kind = "-srhtg".indexOf(token);
            if (kind < 1) return 1;
            if (part > 6) return 3;
            Person p = ofKind(kind);
            p.number = part - 1;
            s.people.add(p);
            return 0;
        }
        if (step == 6) return token.equals(";") ? 0 : 1;
        if (step % 2 == 0) return token.equals(",") ? 0 : 1;
        if (!token.matches("[0-9]{1,2}")) return 1;
        int v = Integer.parseInt(token);
        int[][] most = {{99, 20, 8}, {60, 40, 99}};
        if (v > most[part == 0 ? 0 : 1][step / 2] || part == 0 && step == 5 && v == 0) return 2;
        if (part == 0) {
            if (step == 1) s.cash = v;
            if (step == 3) s.dearer = v;
            if (step == 5) s.every = v;
        } else {
            Person p = s.people.get(part - 1);
            if (step == 1) p.wage = v;
            if (step == 3) p.wants = v;
            if (step == 5) p.stop = v;
        }
        return 0;
    }

    int fault() {
        return lastFault;
    }

    int undo() {
        if (past.isEmpty()) return STATE;
        store = past.pop();
        return past.size();
    }

    private void act() {
        past.push(store.twin());
        if (past.size() > 24) past.removeLast();
    }

    int weeks(int n) {
        if (store == null) return STATE;
        if (n < 1 || n > 24) return BAD;
        if (store.week + n > 999) return FULL;
        for (int i = 0; i < n; i++) {
            act();
            store.week();
        }
        return store.cash;
    }

    private boolean no(int one) {
        return store == null || one < 0 || one >= store.people.size();
    }

    private Person person(int one) {
        return store.people.get(one);
    }

    int stop(int one, int sum) {
        if (no(one) || sum < 0 || sum > 99) return BAD;
        int was = person(one).stop;
        act();
        person(one).stop = sum;
        return was;
    }

    int strike(int n) {
        if (store == null) return STATE;
        if (n < 0 || n > 20) return BAD;
        int was = store.strike;
        act();
        store.strike = n;
        return was;
    }

    int cross(int one, int on) {
        if (no(one) || on < 0 || on > 1) return BAD;
        if (person(one).crossed == (on == 1)) return STATE;
        act();
        person(one).crossed = on == 1;
        if (on == 0) person(one).debt = 0;
        return store.lost();
    }

    int dearer(int n) {
        if (store == null) return STATE;
        if (n < 0 || n > 20) return BAD;
        int was = store.dearer;
        act();
        store.dearer = n;
        return was;
    }

    int debtor(int one, int what) {
        if (no(one)) return BAD;
        Person p = person(one);
        switch (what) {
            case 0: return p.debt;
            case 1: return p.wage;
            case 2: return p.wants;
            case 3: return p.stop;
            case 4: return p.gone ? 1 : 0;
            case 5: return p.crossed ? 1 : 0;
            case 6: return p.paid;
            case 7: return p.took;
            default: return BAD;
        }
    }

    int shopHas(int what) {
        if (store == null) return STATE;
        switch (what) {
            case 0: return store.cash;
            case 1: return store.owed;
            case 2: return store.strike;
            case 3: return store.shut ? 1 : 0;
            case 4: return store.debts();
            case 5: return store.lost();
            default: return BAD;
        }
    }

    int ahead(int n, int what) {
        if (store == null) return STATE;
        if (n < 0 || n > 60 || what < 0 || what > 2) return BAD;
        Store s = store.after(n);
        return what == 0 ? s.cash : what == 1 ? s.owed : s.debts();
    }

    int debt(int one, int n) {
        if (no(one) || n < 0 || n > 60) return BAD;
        return store.after(n).people.get(one).debt;
    }

    int shuts() {
        if (store == null) return STATE;
        for (int n = 0; n <= 60; n++) if (store.after(n).shut) return n;
        return NONE;
    }

    int bestStop(int one, int n, int what) {
        if (no(one) || n < 1 || n > 60 || what < 0 || what > 1) return BAD;
        int best = -1, most = Integer.MIN_VALUE;
        for (int sum = 0; sum < 100; sum++) {
            Store s = store.twin();
            s.people.get(one).stop = sum;
            s = s.after(n);
            if (s.cash - s.owed > most) {
                most = s.cash - s.owed;
                best = sum;
            }
        }
        return what == 0 ? best : most;
    }

    int whom(int n, int what) {
        if (store == null) return STATE;
        if (n < 1 || n > 60 || what < 0 || what > 1) return BAD;
        List<int[]> good = new ArrayList<>();
        for (int set = 0; set < 1 << store.people.size(); set++) {
            Store s = store.twin();
            for (Person p : s.people) if ((set & 1 << p.number) == 0) p.stop = 0;
            s = s.after(n);
            if (!s.shut) good.add(new int[] {set, s.cash - s.owed});
        }
        good.sort(Comparator.<int[]>comparingInt(g -> -g[1]).thenComparingInt(g -> Integer.bitCount(g[0]))
            .thenComparingInt(g -> g[0]));
        return good.isEmpty() ? NONE : good.get(0)[what];
    }

    int stands() {
        if (store == null) return STATE;
        int longest = NONE;
        for (int strike = 0; strike <= 20; strike++) {
            Store s = store.twin();
            s.strike = strike;
            if (!s.after(40).shut) longest = strike;
        }
        return longest;
    }

    int dear(int n) {
        if (store == null) return STATE;
        if (n < 1 || n > 60) return BAD;
        int least = NONE;
        for (int dearer = 20; dearer >= 0; dearer--) {
            Store s = store.twin();
            s.dearer = dearer;
            if (!s.after(n).shut) least = dearer;
        }
        return least;
    }

    int rogue(int one, int n, int what) {
        if (no(one) || n < 1 || n > 60 || what < 0 || what > 1) return BAD;
        if (!person(one).comes()) return STATE;
        int best = -1, most = Integer.MIN_VALUE;
        for (int sum = 0; sum < 100; sum++) {
            Store s = store.twin();
            Person p = s.people.get(one).as(5);
            p.stop = sum;
            p.paid = 0;
            p.took = 0;
            s.people.set(one, p);
            for (int i = 0; i < n; i++) s.week();
            if (p.took - p.paid > most) {
                most = p.took - p.paid;
                best = sum;
            }
        }
        return what == 0 ? best : most;
    }

    int who(int one, int row, int i, int n) {
        if (no(one) || row < 0 || row > 7 || n < 1 || n > 12) return BAD;
        if (rows[row] == null) return found(1);
        if (i < 0 || (long) i + n > size(rows[row])) return found(2);
        finding = 0;
        int bits = 0;
        for (int kind = 1; kind <= 5; kind++) {
            Store s = store.twin();
            s.people.set(one, person(one).as(kind));
            boolean same = true;
            for (int w = 0; w < n; w++) same &= s.week()[one] == item(rows[row], i + w);
            if (same) bits += 1 << kind;
        }
        return bits;
    }

    int atDoor(int k) {
        if (store == null) return STATE;
        if (k < 0 || k > 5) return BAD;
        List<Person> door = new ArrayList<>(store.people);
        door.removeIf(p -> !p.comes());
        door.sort(Comparator.<Person>comparingInt(p -> -p.debt).thenComparingInt(p -> p.number));
        return k < door.size() ? door.get(k).number : NONE;
    }

    long pays(int p, int k, int what) {
        if (store == null) return STATE;
        int all = (int) store.people.stream().filter(Person::comes).count();
        if (p < 0 || p > 10 || k < 0 || k > all || what < 0 || what > 1) return BAD;
        BigInteger above = BigInteger.ZERO, below = BigInteger.TEN.pow(all);
        for (int set = 0; set < 1 << all; set++) {
            int in = Integer.bitCount(set);
            if (in < k) continue;
            above = above.add(BigInteger.valueOf(p).pow(in).multiply(BigInteger.valueOf(10 - p).pow(all - in)));
        }
        BigInteger common = above.gcd(below);
        return (what == 0 ? above : below).divide(common).longValueExact();
    }

    int drawn(int n, int seed, int what) {
        if (store == null) return STATE;
        if (n < 0 || n > 60 || seed < 1 || seed > 999999 || what < 0 || what > 1) return BAD;
        Store s = store.twin();
        BigInteger x = BigInteger.valueOf(seed);
        int none = 0;
        for (int i = 0; i < n; i++) {
            x = x.multiply(BigInteger.valueOf(16807)).mod(BigInteger.valueOf(2147483647));
            if (x.mod(BigInteger.TEN).signum() == 0 && s.strike == 0) {
                s.strike = x.mod(BigInteger.valueOf(5)).intValue() + 1;
            }
            int sum = 0;
            for (int paid : s.week()) sum += paid;
            if (sum == 0) none++;
        }
        return what == 0 ? s.cash : none;
    }

    int image(int k) {
        if (k < 0 || k > 1) return BAD;
        if (store == null) return STATE;
        images[k] = store.twin();
        return 1;
    }

    int restore(int k) {
        if (k < 0 || k > 1) return BAD;
        if (images[k] == null) return STATE;
        store = images[k].twin();
        past.clear();
        return 1;
    }

    int kind(int one) {
        return no(one) ? BAD : kindOf(person(one));
    }

    int as(int one, int kind) {
        if (no(one) || kind < 0 || kind > 5) return BAD;
        if (!KINDS[kind].isInstance(person(one))) return found(3);
        finding = 0;
        return one;
    }

    int ask(int one, int what) {
        if (no(one) || what < 0 || what > 1) return BAD;
        trace = new ArrayList<>();
        return what == 0 ? person(one).size(trace) : person(one).mark(trace);
    }

    int trace(int i) {
        return i >= 0 && i < trace.size() && i < 16 ? trace.get(i) : NONE;
    }

    int count(int what) {
        if (what < 0 || what > 8) return BAD;
        if (what == 0) {
            int n = 0;
            for (Object r : rows) if (r != null) n++;
            return n;
        }
        if (what == 7) return past.size();
        if (what == 8) return tape.length();
        if (store == null) return 0;
        int crossed = 0, gone = 0;
        for (Person p : store.people) {
            if (p.crossed) crossed |= 1 << p.number;
            if (p.gone) gone |= 1 << p.number;
        }
        int[] all = {0, store.people.size(), store.dearer, store.every, store.week, crossed, gone};
        return all[what];
    }

    int status() {
        return finding;
    }
}
