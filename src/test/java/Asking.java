import java.util.function.Supplier;
import java.util.function.ToLongFunction;

/** What the tests of single calls say: which sentence is at stake, what is due, what changes nothing. */
abstract class Asking {
    static final int FAR = Integer.MAX_VALUE, LOW = Integer.MIN_VALUE;
    static final Checks CHECKS = new Checks();

    static void promise(int number) {
        CHECKS.about("promise " + number);
    }

    /** What is asked next stands or falls with these words of the document; [..] leaves some out. */
    static void sentence(int promise, String words) {
        CHECKS.about("promise " + promise + ", \"" + words + "\"");
    }

    static void due(String call, long got, long want) {
        CHECKS.due(call, got, want);
    }

    /** Answers this and changes nothing. */
    static void same(String call, long want, Supplier<ThirstScales> world, ToLongFunction<ThirstScales> ask) {
        CHECKS.changesNothing(call, want, world, ask);
    }

    /** Refused by an object that holds some of everything. */
    static void refused(String call, long code, ToLongFunction<ThirstScales> ask) {
        same(call, code, Worlds::busy, ask);
    }

    /** Refused by an object that has no room left for anything. */
    static void refusedFull(String call, long code, ToLongFunction<ThirstScales> ask) {
        same(call + ", all full", code, Worlds::full, ask);
    }

    /** Refused whether there is room or not. */
    static void bad(String call, ToLongFunction<ThirstScales> ask) {
        refused(call, ThirstScales.BAD, ask);
        refusedFull(call, ThirstScales.BAD, ask);
    }
}
