import java.util.Random;

/** Long runs of drawn calls (the same ones every time), compared with PlainScales call by call. */
public final class OracleTest {
    private static final int RUNS = 1500;
    private static final int CALLS = 500;

    private final Random random = new Random(20261119);
    private final Checks checks = new Checks();
    private ThirstScales x;
    private PlainScales plain;

    public static void main(String[] args) {
        OracleTest test = new OracleTest();
        for (int run = 0; run < RUNS; run++) {
            test.checks.about("drawn run " + run);
            test.run();
        }
        test.checks.end();
    }

    private void run() {
        x = new ThirstScales();
        plain = new PlainScales();
        int calls = 0;
        if (random.nextInt(20) != 0) {
            calls += typeText(text());
            both("gate()", x.gate(), plain.gate());
        }
        while (calls < CALLS) {
            if (random.nextInt(60) == 0) {
                calls += typeText(random.nextInt(3) == 0 ? text() : faulty(text()));
                both("gate()", x.gate(), plain.gate());
                if (random.nextInt(4) != 0) {
                    both("clear()", x.clear(), plain.clear());
                }
            } else {
                call();
            }
            calls++;
        }
        for (int l = 0; l < 5; l++) {
            both("enough", x.enough(l, 1), plain.enough(l, 1));
        }
    }

    private void both(String call, long got, long want) {
        checks.due(call, got, want);
    }

    /** Mostly 0 .. most, now and then a little or far outside. */
    private int drawn(int most) {
        int way = random.nextInt(40);
        if (way == 0) {
            return -1;
        }
        if (way == 1) {
            return most + 1;
        }
        if (way == 2) {
            return random.nextInt();
        }
        return random.nextInt(most + 1);
    }

    private int someTaster() {
        return drawn(Math.max(plain.count(1) - 1, 0));
    }

    private int someLoad() {
        return drawn(Math.max(plain.count(0) - 1, 0));
    }

    private void call() {
        switch (random.nextInt(32)) {
            case 0: case 1: case 2: weighs(); break;
            case 3: says(); break;
            case 4: jug(); break;
            case 5: both("night", x.night(), plain.night()); break;
            case 6: { int h = drawn(9); both("heat " + h, x.heat(h), plain.heat(h)); break; }
            case 7: case 8: both("undo", x.undo(), plain.undo()); break;
            case 9: known(); break;
            case 10: case 11: canBe(); break;
            case 12: next(); break;
            case 13: if (random.nextInt(4) == 0) { enough(); } break;
            case 14: case 15: heavier(); break;
            case 16: case 17: told(); break;
            case 18: if (random.nextInt(3) == 0) { both("forget", x.forget(), plain.forget()); } break;
            case 19: { int w = drawn(4); both("learnt " + w, x.learnt(w), plain.learnt(w)); break; }
            case 20: may(); break;
            case 21: both("bribed", x.bribed(), plain.bribed()); break;
            case 22: memory(); break;
            case 23: case 24: mark(); break;
            case 25: { int i = drawn(1); both("keep " + i, x.keep(i), plain.keep(i)); break; }
            case 26: { int i = drawn(1); both("back " + i, x.back(i), plain.back(i)); break; }
            case 27: { int w = drawn(5); both("count " + w, x.count(w), plain.count(w)); break; }
            case 28: both("trace", x.trace(), plain.trace()); break;
            case 29: taster(); break;
            case 30: cups(); break;
            default: { int l = someLoad(); both("load " + l, x.load(l), plain.load(l)); }
        }
    }

    private void weighs() {
        int t = someTaster();
        int l = someLoad();
        both("weighs " + t + " " + l, x.weighs(t, l), plain.weighs(t, l));
    }

    private void says() {
        int t = someTaster();
        int l = someLoad();
        int truth = plain.cups(t, Math.max(plain.load(l), 0), Math.max(plain.taster(t, 4), 0));
        int cups = random.nextBoolean() ? truth : drawn(99);
        both("says " + t + " " + l + " " + cups, x.says(t, l, cups), plain.says(t, l, cups));
    }

    private void jug() {
        int t = someTaster();
        int u = someTaster();
        int l = someLoad();
        int c = random.nextBoolean() ? drawn(20) : drawn(999);
        int what = drawn(1);
        both("jug", x.jug(t, u, l, c, what), plain.jug(t, u, l, c, what));
    }

    private void known() {
        int i = drawn(Math.max(plain.count(3) - 1, 0));
        int what = drawn(5);
        both("known " + i + " " + what, x.known(i, what), plain.known(i, what));
    }

    private void canBe() {
        int l = someLoad();
        int what = drawn(2);
        both("canBe " + l + " " + what, x.canBe(l, what), plain.canBe(l, what));
    }

    private void next() {
        int l = someLoad();
        int what = drawn(1);
        both("next " + l + " " + what, x.next(l, what), plain.next(l, what));
    }

    private void enough() {
        int l = someLoad();
        int m = random.nextBoolean() ? drawn(8) : drawn(61);
        both("enough " + l + " " + m, x.enough(l, m), plain.enough(l, m));
    }

    private void heavier() {
        int l = someLoad();
        int k = someLoad();
        both("heavier " + l + " " + k, x.heavier(l, k), plain.heavier(l, k));
    }

    private void told() {
        int weight = drawn(60);
        int licks = drawn(9);
        int heat = drawn(9);
        // by one and the same law mostly, so that some laws stay as told
        int cups = (Math.max(3 * weight - 2 * licks, 0) + 4 + heat) / 5;
        if (random.nextInt(12) == 0) {
            cups = drawn(999);
        }
        both("told", x.told(weight, licks, heat, cups), plain.told(weight, licks, heat, cups));
    }

    private void may() {
        int weight = drawn(60);
        int licks = drawn(9);
        int heat = drawn(9);
        int what = drawn(1);
        both("may", x.may(weight, licks, heat, what), plain.may(weight, licks, heat, what));
    }

    private void memory() {
        int t = someTaster();
        int cups = random.nextBoolean() ? drawn(30) : drawn(999);
        int y = drawn(20);
        int what = drawn(1);
        both("memory", x.memory(t, cups, y, what), plain.memory(t, cups, y, what));
    }

    private void mark() {
        int kind = drawn(5);
        int t = someTaster();
        both("mark " + kind + " " + t, x.mark(kind, t), plain.mark(kind, t));
    }

    private void taster() {
        int t = someTaster();
        int what = drawn(4);
        both("taster " + t + " " + what, x.taster(t, what), plain.taster(t, what));
    }

    private void cups() {
        int t = someTaster();
        int weight = drawn(60);
        int licks = drawn(99);
        both("cups", x.cups(t, weight, licks), plain.cups(t, weight, licks));
    }

    private int typeText(String text) {
        int calls = 0;
        int place = 0;
        while (place < text.length()) {
            int n = Math.min(1 + random.nextInt(8), text.length() - place);
            // what stands above the n bytes must not matter
            long v = random.nextLong();
            for (int i = 0; i < n; i++) {
                v = v << 8 | text.charAt(place + i);
            }
            both("type " + n, x.type(v, n), plain.type(v, n));
            place += n;
            calls++;
        }
        int n = random.nextInt(30) == 0 ? random.nextInt() : 0;
        if (n < 1 || n > 8) {
            both("type " + n, x.type(1, n), plain.type(1, n));
        }
        return calls;
    }

    private String blanks(boolean needed) {
        int way = random.nextInt(6);
        return way == 0 ? "  " : way < 3 || needed ? " " : "";
    }

    private String text() {
        StringBuilder s = new StringBuilder(blanks(false));
        int items = random.nextInt(9);
        boolean heatTold = false;
        int most = 60;
        for (int i = 0; i < items; i++) {
            int way = random.nextInt(9);
            if (way == 0 && (!heatTold || random.nextInt(4) == 0)) {
                s.append("heat").append(blanks(false)).append(random.nextInt(10));
                heatTold = true;
            } else if (way < 4) {
                s.append("load").append(blanks(false)).append(random.nextInt(most + 1));
            } else {
                s.append("taster").append(blanks(false)).append(1 + random.nextInt(random.nextBoolean() ? 3 : 9));
                s.append(blanks(true)).append(random.nextInt(10)).append(blanks(true));
                s.append(1 + random.nextInt(9)).append(blanks(true)).append(random.nextInt(4));
            }
            s.append(blanks(false)).append(';').append(blanks(false));
        }
        return s.toString();
    }

    private String faulty(String text) {
        StringBuilder s = new StringBuilder(text);
        int changes = 1 + random.nextInt(2);
        for (int i = 0; i < changes && s.length() > 0; i++) {
            int place = random.nextInt(s.length());
            String signs = " ;0123456789aehlort\u00c8A\t";
            char sign = signs.charAt(random.nextInt(signs.length()));
            switch (random.nextInt(4)) {
                case 0: s.deleteCharAt(place); break;
                case 1: s.insert(place, sign); break;
                case 2: s.setCharAt(place, sign); break;
                default: s.setLength(place);
            }
        }
        return s.toString();
    }
}
