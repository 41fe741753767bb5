import com.sun.management.ThreadMXBean;
import java.lang.management.ManagementFactory;
import java.util.function.ToLongFunction;

/** All calls of a run live in one room: what an object needs is made with it, and no call makes any more. */
public final class RoomTest {
    private static final ThreadMXBean THREADS = (ThreadMXBean) ManagementFactory.getThreadMXBean();
    private static final Checks CHECKS = new Checks();
    private static final int OBJECTS = 100, MOST_BYTES_OF_ONE = 6000;
    private static final String ROUGH = "load 1;taster 1 2 3 4;";

    public static void main(String[] args) {
        CHECKS.about("room");
        objects();
        makesNone("type", x -> x.type(32, 1));
        makesNone("clear", ThirstScales::clear);
        makesNone("gate", RoomTest::gateOfRightAndWrong);
        makesNone("load", x -> x.load(0));
        makesNone("taster", x -> x.taster(0, 2));
        makesNone("cups", x -> x.cups(0, 60, 99));
        makesNone("weighs", x -> x.weighs(0, 0) + x.undo());
        makesNone("says", x -> x.says(0, 0, 3) + x.undo());
        makesNone("jug", x -> x.jug(0, 1, 0, 30, 0));
        makesNone("night", ThirstScales::night);
        makesNone("heat", x -> x.heat(9));
        makesNone("undo", ThirstScales::undo);
        makesNone("known", x -> x.known(0, 4));
        makesNone("canBe", x -> x.canBe(0, 0));
        makesNone("next", x -> x.next(0, 1));
        makesNone("enough", x -> x.enough(2, 1));
        makesNone("heavier", x -> x.heavier(0, 1));
        makesNone("told", x -> x.told(10, 0, 0, 4));
        makesNone("forget", ThirstScales::forget);
        makesNone("learnt", x -> x.learnt(0));
        makesNone("may", x -> x.may(10, 0, 0, 1));
        makesNone("bribed", ThirstScales::bribed);
        makesNone("memory", x -> x.memory(0, 3, 1, 1));
        makesNone("mark", x -> x.mark(3, 0));
        makesNone("keep and back", x -> x.keep(1) + x.back(1));
        makesNone("count", x -> x.count(5));
        makesNone("trace", ThirstScales::trace);
        makesNone("what is refused", x -> x.type(1, 9) + x.weighs(9, 9) + x.mark(9, 9) + x.back(7));
        CHECKS.end();
    }

    private static long bytes() {
        return THREADS.getThreadAllocatedBytes(Thread.currentThread().getId());
    }

    private static void objects() {
        ThirstScales[] kept = new ThirstScales[OBJECTS];
        kept[0] = new ThirstScales();
        long ahead = bytes();
        for (int i = 1; i < OBJECTS; i++) {
            kept[i] = new ThirstScales();
        }
        long each = (bytes() - ahead) / (OBJECTS - 1);
        CHECKS.due("an object of " + each + " bytes is too large", each > MOST_BYTES_OF_ONE ? 1 : 0, 0);
    }

    /** The first round is not counted: what the machine loads then is not the call's. */
    private static void makesNone(String call, ToLongFunction<ThirstScales> ask) {
        ThirstScales x = Worlds.busy();
        long sum = ask.applyAsLong(x);
        long ahead = bytes();
        for (int i = 0; i < 100; i++) {
            sum += ask.applyAsLong(x);
        }
        long made = bytes() - ahead;
        CHECKS.due("bytes made by " + call + " (answers sum up to " + sum + ")", made, 0);
    }

    /** Typed byte by byte from a constant, so that the asking itself makes nothing either. */
    private static long gateOfRightAndWrong(ThirstScales x) {
        x.clear();
        for (int i = 0; i < ROUGH.length(); i++) {
            x.type(ROUGH.charAt(i), 1);
        }
        long wrong = x.gate();
        x.clear();
        for (int i = 0; i < 7; i++) {
            x.type(ROUGH.charAt(i), 1);
        }
        return wrong + x.gate();
    }
}
