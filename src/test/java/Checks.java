import java.util.function.Supplier;
import java.util.function.ToLongFunction;

/** What the tests share: counting wrong answers, looking at all of an object. */
final class Checks {
    private int wrong = 0;
    private int asked = 0;
    private String about = "";

    void about(String what) {
        about = what;
    }

    void due(String call, long got, long want) {
        asked++;
        if (got != want) {
            wrong++;
            System.out.println(about + ": " + call + " answered " + got + ", due is " + want);
        }
    }

    void due(String call, String got, String want) {
        asked++;
        if (!got.equals(want)) {
            wrong++;
            System.out.println(about + ": " + call + " gave\n  " + got + "\ndue is\n  " + want);
        }
    }

    /** A call that answers this, and behind which all that can be asked is as in a world without it. */
    void changesNothing(String call, long want, Supplier<ThirstScales> world, ToLongFunction<ThirstScales> ask) {
        ThirstScales x = world.get();
        due(call, ask.applyAsLong(x), want);
        due("what is behind " + call, whole(x), whole(world.get()));
    }

    void end() {
        System.out.println(asked + " answers, " + wrong + " of them not as due");
        if (wrong != 0) {
            System.exit(1);
        }
    }

    /** The images and the text show themselves only when they are used: the object is spent by this. */
    static String whole(ThirstScales x) {
        StringBuilder s = new StringBuilder();
        addLasting(s, x);
        addNow(s, x);
        for (int image = 1; image >= 0; image--) {
            s.append(" back ").append(x.back(image));
            addNow(s, x);
        }
        s.append(" gate ").append(x.gate());
        addLasting(s, x);
        addNow(s, x);
        return s.toString();
    }

    private static void addLasting(StringBuilder s, ThirstScales x) {
        s.append(" trace ").append(x.trace()).append(" told ").append(x.count(4));
        for (int what = 0; what <= 4; what++) {
            s.append(' ').append(x.learnt(what));
        }
        s.append(" bytes ").append(x.count(5)).append(" loads ").append(x.count(0));
        for (int l = 0; l <= x.count(0); l++) {
            s.append(' ').append(x.load(l));
        }
        s.append(" tasters ").append(x.count(1));
        for (int t = 0; t <= x.count(1); t++) {
            for (int what = 0; what <= 3; what++) {
                s.append(' ').append(x.taster(t, what));
            }
        }
    }

    private static void addNow(StringBuilder s, ThirstScales x) {
        s.append(" heat ").append(x.count(2)).append(" licks");
        for (int t = 0; t <= x.count(1); t++) {
            s.append(' ').append(x.taster(t, 4));
        }
        s.append(" known ").append(x.count(3));
        for (int i = 0; i <= x.count(3); i++) {
            for (int what = 0; what <= 5; what++) {
                s.append(' ').append(x.known(i, what));
            }
        }
    }
}
