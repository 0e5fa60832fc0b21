import java.util.Random;

/** Long runs of drawn calls, some of them wild, on SlateShop and on the Model: every answer is the same. */
public final class ModelTest {
    private static final int OBJECTS = 1500, CALLS = 512;
    private static final int[] WILD = {Integer.MIN_VALUE, Integer.MAX_VALUE, -1, -2, 41, 61, 100, 256, 1000000, 2147483600};

    private final Random random;
    private final StringBuilder told = new StringBuilder();
    private SlateShop x;
    private Model y;
    private long got, want;

    private ModelTest(long seed) {
        random = new Random(seed);
    }

    public static void main(String[] args) {
        int passed = 0, failed = 0;
        for (int object = 0; object < OBJECTS; object++) {
            if (new ModelTest(object).run(object)) passed++;
            else failed++;
            if (failed > 4) break;
        }
        System.out.println("objects that agreed with the model: " + passed + " of " + (passed + failed));
        System.exit(failed > 0 ? 1 : 0);
    }

    private boolean run(int object) {
        x = new SlateShop();
        y = new Model();
        int calls = 0;
        boolean soon = random.nextInt(4) > 0;
        while (calls < CALLS) {
            int op = random.nextInt(45);
            boolean read = op == 4 || op == 5 && random.nextInt(4) == 0 || soon && calls > 5 && y.store == null;
            if (read) {
                String text = text();
                for (int i = 0; i < text.length() && calls < CALLS; i++, calls++) {
                    if (!same(object, "feed", x.feed(text.charAt(i)), y.feed(text.charAt(i)))) return false;
                }
                told.append("feed " + text + "\n");
                op = 5;
            }
            if (calls++ >= CALLS) break;
            call(op);
            if (got != want) return same(object, "", got, want);
        }
        return true;
    }

    private boolean same(int object, String call, long a, long b) {
        if (a == b) return true;
        System.out.println(told);
        System.out.println("object " + object + ": " + call + " answered " + a + ", the model says " + b);
        return false;
    }

    private int up(int least, int most) {
        if (random.nextInt(40) == 0) return WILD[random.nextInt(WILD.length)];
        if (random.nextInt(30) == 0) return random.nextBoolean() ? least - 1 : most + 1;
        if (random.nextInt(12) == 0) return random.nextBoolean() ? least : most;
        return least + random.nextInt(most - least + 1);
    }

    private int one() {
        int n = y.store == null ? 2 : y.store.people.size();
        return up(0, n - 1);
    }

    private String number(int least, int most) {
        int v = least + random.nextInt(most - least + 1);
        if (random.nextInt(120) == 0) v = random.nextInt(130);
        return random.nextInt(15) == 0 && v < 10 ? "0" + v : "" + v;
    }

    private String text() {
        StringBuilder b = new StringBuilder();
        int dearer = random.nextBoolean() ? 20 : 5;
        b.append("f" + number(0, 99) + "," + number(0, dearer) + "," + number(1, 8) + ";");
        int n = random.nextInt(40) == 0 ? 7 : 1 + random.nextInt(6);
        int wants = random.nextBoolean() ? 40 : 12;
        for (int i = 0; i < n; i++) {
            b.append("srhtg".charAt(random.nextInt(5)));
            b.append(number(0, 60) + "," + number(0, wants) + "," + number(0, 99) + ";");
        }
        if (random.nextInt(6) == 0) {
            int at = random.nextInt(b.length());
            switch (random.nextInt(4)) {
                case 0: b.setLength(at); break;
                case 1: b.deleteCharAt(at); break;
                case 2: b.insert(at, "fsrhtgq,;0129 F\u0000\u00ff/:".charAt(random.nextInt(18))); break;
                default: b.setCharAt(at, "fsrhtgq,;0129 F\u0000\u00ff/:".charAt(random.nextInt(18)));
            }
        }
        return b.toString();
    }

    private void answers(String call, long a, long b) {
        got = a;
        want = b;
        told.append(call).append(" = ").append(a).append('\n');
    }

    private void call(int op) {
        int a, b, c, d, e;
        switch (op) {
            case 0:
                a = up(0, 7); b = up(0, 2); c = up(0, 40);
                if (random.nextInt(3) > 0) { a &= 3; }
                answers("row " + a + " " + b + " " + c, x.row(a, b, c), y.row(a, b, c));
                break;
            case 1: case 36:
                a = up(0, 3); b = up(0, 20); c = random.nextInt(3) == 0 ? random.nextInt() : up(-200, 200);
                answers("set " + a + " " + b + " " + c, x.set(a, b, c), y.set(a, b, c));
                break;
            case 2:
                a = up(0, 3); b = up(0, 20); c = up(0, 3); d = up(0, 20); e = up(0, 12);
                answers("copy " + a + " " + b + " " + c + " " + d + " " + e, x.copy(a, b, c, d, e), y.copy(a, b, c, d, e));
                break;
            case 3:
                a = up(0, 7);
                answers("drop " + a, x.drop(a), y.drop(a));
                break;
            case 4:
                a = up(0, 255);
                answers("feed " + a, x.feed(a), y.feed(a));
                break;
            case 5: answers("shop", x.shop(), y.shop()); break;
            case 6: answers("fault", x.fault(), y.fault()); break;
            case 7: case 38: answers("undo", x.undo(), y.undo()); break;
            case 8: case 39:
                a = random.nextInt(3) == 0 ? up(1, 24) : up(1, 5);
                answers("weeks " + a, x.weeks(a), y.weeks(a));
                break;
            case 9:
                a = one(); b = up(0, 99);
                answers("stop " + a + " " + b, x.stop(a, b), y.stop(a, b));
                break;
            case 10:
                a = up(0, 20);
                answers("strike " + a, x.strike(a), y.strike(a));
                break;
            case 11:
                a = one(); b = up(0, 1);
                answers("cross " + a + " " + b, x.cross(a, b), y.cross(a, b));
                break;
            case 12:
                a = up(0, 20);
                answers("dearer " + a, x.dearer(a), y.dearer(a));
                break;
            case 13: case 40: case 41:
                a = one(); b = up(0, 7);
                answers("debtor " + a + " " + b, x.debtor(a, b), y.debtor(a, b));
                break;
            case 14: case 42: case 43:
                a = up(0, 5);
                answers("shopHas " + a, x.shopHas(a), y.shopHas(a));
                break;
            default: foretell(op);
        }
    }

    private void foretell(int op) {
        int a, b, c, d;
        switch (op) {
            case 15:
                a = up(0, 60); b = up(0, 2);
                answers("ahead " + a + " " + b, x.ahead(a, b), y.ahead(a, b));
                break;
            case 16:
                a = one(); b = up(0, 60);
                answers("debt " + a + " " + b, x.debt(a, b), y.debt(a, b));
                break;
            case 17: answers("shuts", x.shuts(), y.shuts()); break;
            case 18:
                a = one(); b = up(1, 60); c = up(0, 1);
                answers("bestStop " + a + " " + b + " " + c, x.bestStop(a, b, c), y.bestStop(a, b, c));
                break;
            case 19:
                a = up(1, 60); b = up(0, 1);
                answers("whom " + a + " " + b, x.whom(a, b), y.whom(a, b));
                break;
            case 20: answers("stands", x.stands(), y.stands()); break;
            case 21:
                a = up(1, 60);
                answers("dear " + a, x.dear(a), y.dear(a));
                break;
            case 22:
                a = one(); b = up(1, 60); c = up(0, 1);
                answers("rogue " + a + " " + b + " " + c, x.rogue(a, b, c), y.rogue(a, b, c));
                break;
            case 23: case 37:
                whoTold();
                break;
            case 24:
                a = up(0, 5);
                answers("atDoor " + a, x.atDoor(a), y.atDoor(a));
                break;
            case 25:
                a = up(0, 10); b = up(0, 6); c = up(0, 1);
                answers("pays " + a + " " + b + " " + c, x.pays(a, b, c), y.pays(a, b, c));
                break;
            case 26:
                a = up(0, 60); b = up(1, 999999); c = up(0, 1);
                answers("drawn " + a + " " + b + " " + c, x.drawn(a, b, c), y.drawn(a, b, c));
                break;
            case 27:
                a = up(0, 1);
                answers("image " + a, x.image(a), y.image(a));
                break;
            case 28:
                a = up(0, 1);
                answers("restore " + a, x.restore(a), y.restore(a));
                break;
            default: asked(op);
        }
    }

    /** Every other row is first told what one of some kind would pay. */
    private void whoTold() {
        int a = one(), r = up(0, 3), i = up(0, 3), n = up(1, 12);
        boolean canTell = y.store != null && a >= 0 && a < y.store.people.size() && n > 0 && n <= 12;
        if (canTell && r >= 0 && r < 8 && i >= 0 && i < 20 && random.nextInt(3) > 0) {
            answers("row " + r + " 1 32", x.row(r, 1, 32), y.row(r, 1, 32));
            Model.Store s = y.store.twin();
            s.people.set(a, s.people.get(a).as(1 + random.nextInt(5)));
            for (int w = 0; w < n && got == want; w++) {
                int paid = s.week()[a];
                answers("set " + r + " " + (i + w) + " " + paid, x.set(r, i + w, paid), y.set(r, i + w, paid));
            }
            if (got != want) return;
        }
        answers("who " + a + " " + r + " " + i + " " + n, x.who(a, r, i, n), y.who(a, r, i, n));
    }

    private void asked(int op) {
        int a, b;
        switch (op) {
            case 29:
                a = one();
                answers("kind " + a, x.kind(a), y.kind(a));
                break;
            case 30:
                a = one(); b = up(0, 5);
                answers("as " + a + " " + b, x.as(a, b), y.as(a, b));
                break;
            case 31: case 44:
                a = one(); b = up(0, 1);
                answers("ask " + a + " " + b, x.ask(a, b), y.ask(a, b));
                break;
            case 32:
                a = up(0, 6);
                answers("trace " + a, x.trace(a), y.trace(a));
                break;
            case 33: case 34:
                a = up(0, 8);
                answers("count " + a, x.count(a), y.count(a));
                break;
            default: answers("status", x.status(), y.status());
        }
    }
}
