import java.util.function.Supplier;
import java.util.function.ToLongFunction;

/** What the tests share: counting wrong answers, typing a text, looking at all of an object. */
final class Checks {
    private int wrong = 0;
    private int asked = 0;
    private String about = "";

    void about(String what) {
        about = what;
    }

    void due(String call, long got, long want) {
        asked++;
        if (got != want) {
            wrong++;
            System.out.println(about + ": " + call + " answered " + got + ", due is " + want);
        }
    }

    void due(String call, String got, String want) {
        asked++;
        if (!got.equals(want)) {
            wrong++;
            System.out.println(about + ": " + call + " gave\n  " + got + "\ndue is\n  " + want);
        }
    }

    /** A refused call answers its code and changes nothing that can be asked. */
    void refused(String call, long code, Supplier<ThirstScales> world, ToLongFunction<ThirstScales> ask) {
        ThirstScales x = world.get();
        String before = all(x);
        due(call, ask.applyAsLong(x), code);
        due("what is behind " + call, all(x), before);
    }

    void end() {
        System.out.println(asked + " answers, " + wrong + " of them not as due");
        if (wrong != 0) {
            System.exit(1);
        }
    }

    static void type(ThirstScales x, String text) {
        for (int i = 0; i < text.length(); i++) {
            x.type(text.charAt(i), 1);
        }
    }

    static ThirstScales read(String text) {
        ThirstScales x = new ThirstScales();
        type(x, text);
        if (x.gate() < 0) {
            throw new IllegalStateException("a text of the tests has a fault: " + text);
        }
        return x;
    }

    static String all(ThirstScales x) {
        StringBuilder s = new StringBuilder();
        for (int what = 0; what <= 5; what++) {
            s.append(x.count(what)).append(' ');
        }
        s.append("trace ").append(x.trace()).append(" loads");
        for (int l = 0; l < 5; l++) {
            s.append(' ').append(x.load(l));
        }
        for (int t = 0; t < 6; t++) {
            s.append(" taster");
            for (int what = 0; what <= 4; what++) {
                s.append(' ').append(x.taster(t, what));
            }
        }
        for (int i = 0; i < 12; i++) {
            s.append(" known");
            for (int what = 0; what <= 5; what++) {
                s.append(' ').append(x.known(i, what));
            }
        }
        s.append(" learnt ").append(x.learnt(0));
        return s.toString();
    }
}
