/** Objects that tests begin with. */
final class Worlds {
    static final String TEXT =
        "load 20;load 60;load 0;taster 1 2 7 0;taster 3 5 9 2;taster 9 9 1 3;heat 2;";
    static final String MOST =
        "load 20;load 60;load 0;load 21;load 7;taster 1 2 7 0;taster 3 5 9 2;taster 9 9 1 3;"
        + "taster 1 0 1 0;taster 1 0 9 3;taster 2 0 4 1;heat 2;";

    private Worlds() {
    }

    /** Typed in pieces of eight, so that a long text leaves calls for what comes behind. */
    static void type(ThirstScales x, String text) {
        for (int place = 0; place < text.length(); place += 8) {
            int n = Math.min(8, text.length() - place);
            x.type(bytes(text.substring(place, place + n)), n);
        }
    }

    static long bytes(String text) {
        long v = 0;
        for (int i = 0; i < text.length(); i++) {
            v = v << 8 | text.charAt(i);
        }
        return v;
    }

    static ThirstScales typed(String text) {
        ThirstScales x = new ThirstScales();
        type(x, text);
        return x;
    }

    static int gateOf(String text) {
        return typed(text).gate();
    }

    static ThirstScales read(String text) {
        ThirstScales x = typed(text);
        if (x.gate() < 0) {
            throw new IllegalStateException("a text of the tests has a fault: " + text);
        }
        return x;
    }

    static ThirstScales given() {
        return read(TEXT);
    }

    static ThirstScales most() {
        return read(MOST);
    }

    /** Some of everything. */
    static ThirstScales busy() {
        ThirstScales x = given();
        x.weighs(0, 0);
        x.weighs(1, 0);
        x.weighs(1, 1);
        x.says(2, 0, 9);
        x.told(10, 0, 0, 4);
        x.mark(4, 1);
        x.keep(0);
        x.jug(0, 2, 1, 30, 0);
        type(x, "load 1");
        return x;
    }

    /** No room left for anything. */
    static ThirstScales full() {
        ThirstScales x = given();
        for (int i = 0; i < 6; i++) {
            x.weighs(1, 0);
            x.says(0, 1, 3);
        }
        for (int i = 0; i < 8; i++) {
            x.told(10, 0, 0, 4);
        }
        for (int i = 0; i < 25; i++) {
            x.type(bytes("load 1; "), 8);
        }
        return x;
    }

    static ThirstScales jugged(ThirstScales x, int t, int u, int times) {
        for (int i = 0; i < times; i++) {
            x.jug(t, u, 0, 0, 0);
        }
        return x;
    }
}
