/** Kinds, images, counts (promises 25 to 29): a test for each sentence that names an edge. */
public final class KindEdgesTest extends Asking {
    private static final int[] TRACED = {1, 11, 101, 1011, 10101, 100001};

    public static void main(String[] args) {
        markBounds();
        markOfEachKind();
        markByLicksAndHeat();
        markBelowZero();
        markTraces();
        keepBounds();
        keepNow();
        keepAgain();
        keepFull();
        backBounds();
        backNotKept();
        backAll();
        backNothingElse();
        backAgain();
        imagesGone();
        countBounds();
        counts();
        traceOfAllCalls();
        traceStays();
        lastCalls();
        CHECKS.end();
    }

    private static void markBounds() {
        sentence(25, "NO: BAD");
        for (int kind : new int[] {-1, 6, 7, 99, FAR, LOW}) {
            same("mark(" + kind + ", 0)", -1000000, Worlds::busy, x -> x.mark(kind, 0));
        }
        for (int t : new int[] {-1, 3, 4, 256, FAR, LOW}) {
            for (int kind = 0; kind <= 5; kind++) {
                int asked = kind;
                same("mark(" + kind + ", " + t + ")", -1000000, Worlds::busy, x -> x.mark(asked, t));
            }
        }
        due("nobody", new ThirstScales().mark(0, 0), -1000000);
        due("a load is no taster", Worlds.read("load 1;").mark(0, 0), -1000000);
    }

    private static void markOfEachKind() {
        sentence(25, "0 TASTER; 1 CAMEL, 2 CHILD, 5 WELL (each under TASTER); 3 FEVERISH (under CAMEL); 4 INSPECTOR");
        ThirstScales x = Worlds.most();
        Worlds.jugged(x, 4, 5, 2);
        int[][] due = {{1, 1, 1, 2, 1, 3}, {3, 3, 1, 6, 2, 5}, {9, 9, 6, 18, 8, 11}, {1, 1, 1, 2, 4, 3},
            {1, 3, -2, 6, 2, 3}, {2, 4, 1, 8, 6, 4}};
        for (int t = 0; t <= 5; t++) {
            for (int kind = 0; kind <= 5; kind++) {
                due("mark(" + kind + ", " + t + ")", x.mark(kind, t), due[t][kind]);
            }
        }
        due("licks are as they were", x.night(), 4);
        due("heat is as it was", x.count(2), 2);
    }

    private static void markByLicksAndHeat() {
        sentence(25, "CAMEL up, and LICKS");
        ThirstScales x = Worlds.jugged(Worlds.given(), 1, 2, 200);
        due("200 licks", x.mark(1, 1), 203);
        sentence(25, "FEVERISH up times 2");
        due("the licks, too, times 2", x.mark(3, 1), 406);
        x.night();
        due("none", x.mark(3, 1), 6);
        sentence(25, "CAMEL up, and LICKS");
        due("none", x.mark(1, 1), 3);
        sentence(25, "WELL up, and HEAT");
        x.heat(9);
        due("by 9", x.mark(5, 1), 12);
        x.heat(0);
        due("by 0", x.mark(5, 1), 3);
    }

    private static void markBelowZero() {
        sentence(25, "CHILD up less T");
        ThirstScales x = Worlds.read("taster 1 0 1 3;taster 3 0 1 3;taster 9 0 1 0;");
        due("below 0", x.mark(2, 0), -2);
        due("0", x.mark(2, 1), 0);
        due("no T", x.mark(2, 2), 9);
        sentence(25, "INSPECTOR up, and his number");
        due("below 0", x.mark(4, 0), -2);
        due("his number 1", x.mark(4, 1), 1);
        due("his number 2", x.mark(4, 2), 11);
    }

    private static void markTraces() {
        sentence(25, "(numbers in brackets come to THE TRACE [..] as often as mark() asks that body");
        for (int kind = 0; kind <= 5; kind++) {
            ThirstScales x = Worlds.given();
            for (int times = 1; times <= 3; times++) {
                x.mark(kind, times - 1);
                due("trace() behind " + times + " of kind " + kind, x.trace(), (long) times * TRACED[kind]);
            }
        }
    }

    private static void keepBounds() {
        sentence(26, "IMAGES 0, 1 [..] BAD");
        for (int image : new int[] {-1, 2, 3, FAR, LOW}) {
            same("keep(" + image + ")", -1, Worlds::busy, x -> x.keep(image));
            same("keep(" + image + ")", -1, Worlds::full, x -> x.keep(image));
        }
    }

    private static void keepNow() {
        sentence(26, "An IMAGE is kept: how much is known");
        for (int image = 0; image <= 1; image++) {
            due("nothing", new ThirstScales().keep(image), 0);
            due("four", Worlds.busy().keep(image), 4);
            due("twelve", Worlds.full().keep(image), 12);
            ThirstScales x = new ThirstScales();
            x.keep(image);
            due("back(" + image + ")", x.back(image), 0);
            due("the other one is not kept", x.back(1 - image), -2);
        }
        ThirstScales x = Worlds.busy();
        x.keep(1);
        due("what is known stays", x.count(3), 4);
        due("heat stays", x.count(2), 2);
        due("licks stay", x.night(), 5);
    }

    private static void keepAgain() {
        sentence(26, "IMAGES 0, 1 keep NOW");
        ThirstScales x = Worlds.given();
        x.weighs(0, 0);
        x.keep(0);
        x.keep(1);
        x.weighs(0, 0);
        x.heat(9);
        due("anew", x.keep(0), 2);
        x.night();
        x.heat(4);
        due("the one kept anew", x.back(0), 2);
        due("its heat", x.count(2), 9);
        due("its licks", x.taster(0, 4), 2);
        due("the other one as it was", x.back(1), 1);
        due("its heat", x.count(2), 2);
        due("its licks", x.taster(0, 4), 1);
    }

    private static void keepFull() {
        sentence(26, "what is known");
        ThirstScales x = Worlds.full();
        x.keep(0);
        while (x.undo() > 0) {
            x.night();
        }
        x.keep(1);
        due("all twelve", x.back(0), 12);
        due("the twelfth", x.known(11, 5), 1);
        due("no room", x.weighs(0, 0), -3);
        due("licks", x.taster(1, 4), 6);
        due("none", x.back(1), 0);
        due("known(0, 0)", x.known(0, 0), -1);
        due("room", x.weighs(0, 0), 3);
    }

    private static void backBounds() {
        sentence(27, "IMAGES 0, 1 [..] BAD");
        for (int image : new int[] {-1, 2, 3, FAR, LOW}) {
            same("back(" + image + ")", -1, Worlds::busy, x -> x.back(image));
            sentence(27, "the first of these: BAD [..], STATE (as told), FULL");
            same("back(" + image + ") of none", -1, ThirstScales::new, x -> x.back(image));
        }
    }

    private static void backNotKept() {
        sentence(27, "STATE: none was kept");
        same("back(0)", -2, Worlds::full, x -> x.back(0));
        same("back(1)", -2, Worlds::full, x -> x.back(1));
        same("back(1), but 0 was", -2, Worlds::busy, x -> x.back(1));
        ThirstScales x = Worlds.given();
        x.keep(1);
        due("back(0), but 1 was", x.back(0), -2);
        x.keep(2);
        due("a refused keep() keeps none", x.back(0), -2);
    }

    private static void backAll() {
        sentence(27, "All of that becomes as an IMAGE has it: how much is known");
        ThirstScales x = Worlds.most();
        x.weighs(5, 4);
        x.says(4, 3, 77);
        Worlds.jugged(x, 0, 1, 2);
        x.heat(6);
        x.keep(1);
        x.undo();
        x.undo();
        x.weighs(1, 2);
        x.night();
        x.heat(3);
        due("back(1)", x.back(1), 2);
        int[][] rows = {{5, 0, 2, 4, 4, 0}, {4, 0, 2, 3, 77, 1}};
        for (int i = 0; i <= 1; i++) {
            for (int what = 0; what <= 5; what++) {
                due("known(" + i + ", " + what + ")", x.known(i, what), rows[i][what]);
            }
        }
        due("known(2, 0)", x.known(2, 0), -1);
        int[] licks = {2, 2, 0, 0, 0, 1};
        for (int t = 0; t <= 5; t++) {
            due("taster(" + t + ", 4)", x.taster(t, 4), licks[t]);
        }
        due("count(2)", x.count(2), 6);
        due("canBe(4, 0)", x.canBe(4, 0), 2);
        due("canBe(2, 0)", x.canBe(2, 0), 61);
        due("bribed()", x.bribed(), 16);
    }

    private static void backNothingElse() {
        sentence(27, "nothing else");
        ThirstScales x = Worlds.busy();
        x.told(60, 0, 0, 20);
        x.mark(0, 0);
        x.type(';', 1);
        x.back(0);
        due("tastings", x.count(4), 2);
        due("learnt(0)", x.learnt(0), 24);
        due("the text", x.count(5), 7);
        due("the trace", x.trace(), 10102);
        due("loads", x.count(0), 3);
        due("tasters", x.count(1), 3);
        due("the text's bytes", x.gate(), 1);
        due("load(0)", x.load(0), 1);
        ThirstScales fewer = Worlds.busy();
        fewer.forget();
        fewer.clear();
        fewer.back(0);
        due("tastings that were forgotten", fewer.count(4), 0);
        due("a text that was cleared", fewer.count(5), 0);
    }

    private static void backAgain() {
        sentence(27, "All of that becomes as an IMAGE has it");
        ThirstScales x = Worlds.busy();
        due("back(0)", x.back(0), 4);
        x.weighs(2, 2);
        x.heat(0);
        due("an image does not follow", x.back(0), 4);
        due("count(2)", x.count(2), 2);
        due("taster(2, 4)", x.taster(2, 4), 0);
        x.undo();
        x.undo();
        due("nor by what is undone", x.back(0), 4);
        due("taster(1, 4)", x.taster(1, 4), 2);
        due("twice", x.back(0), 4);
    }

    private static void imagesGone() {
        sentence(27, "IMAGES are gone");
        ThirstScales x = Worlds.busy();
        x.keep(1);
        due("a fault", x.gate(), -16);
        due("leaves them", x.back(0), 4);
        x.clear();
        due("an empty text", x.gate(), 0);
        due("back(0)", x.back(0), -2);
        due("back(1)", x.back(1), -2);
        x.keep(1);
        due("kept anew", x.back(1), 0);
        due("the other one is not", x.back(0), -2);
    }

    private static void countBounds() {
        sentence(28, "0 LOADS, 1 TASTERS, 2 HEAT, 3 what is known, 4 told tastings, 5 bytes of THE TEXT. BAD");
        for (int what : new int[] {-1, 6, 7, FAR, LOW}) {
            same("count(" + what + ")", -1, Worlds::busy, x -> x.count(what));
            due("count(" + what + ") of a new one", new ThirstScales().count(what), -1);
        }
    }

    private static void counts() {
        sentence(28, "0 LOADS, 1 TASTERS, 2 HEAT, 3 what is known, 4 told tastings, 5 bytes of THE TEXT");
        int[] most = {5, 6, 9, 12, 8, 200};
        for (int what = 0; what <= 5; what++) {
            int asked = what;
            same("count(" + what + ")", most[what], KindEdgesTest::allThereCanBe, x -> x.count(asked));
            due("count(" + what + ") of a new one", new ThirstScales().count(what), 0);
        }
        ThirstScales x = Worlds.busy();
        x.undo();
        x.forget();
        x.clear();
        x.heat(0);
        int[] fewer = {3, 3, 0, 3, 0, 0};
        for (int what = 0; what <= 5; what++) {
            due("count(" + what + ")", x.count(what), fewer[what]);
        }
    }

    private static ThirstScales allThereCanBe() {
        ThirstScales x = Worlds.most();
        x.heat(9);
        for (int i = 0; i < 12; i++) {
            x.says(5, 4, i);
        }
        for (int i = 0; i < 8; i++) {
            x.told(i, i, i, i);
        }
        for (int i = 0; i < 25; i++) {
            x.type(Worlds.bytes("heat 1; "), 8);
        }
        return x;
    }

    private static void traceOfAllCalls() {
        sentence(29, "(0 at first; of all calls ever, together)");
        ThirstScales x = Worlds.given();
        due("trace()", x.trace(), 0);
        long sum = 0;
        for (int times = 0; times < 60; times++) {
            int kind = (times * 5 + 2) % 6;
            x.mark(kind, times % 3);
            sum += TRACED[kind];
            due("trace() behind " + (times + 1), x.trace(), sum);
        }
        for (int times = 0; times < 300; times++) {
            x.mark(5, 0);
        }
        due("trace()", x.trace(), sum + 300L * 100001);
        due("trace() again", x.trace(), sum + 300L * 100001);
        ThirstScales other = Worlds.given();
        due("another object's", other.trace(), 0);
    }

    private static void traceStays() {
        sentence(29, "THE TRACE stays");
        ThirstScales x = Worlds.busy();
        due("trace()", x.trace(), 10101);
        x.mark(6, 0);
        x.mark(0, 3);
        due("of refused calls nothing", x.trace(), 10101);
        x.back(0);
        x.undo();
        x.night();
        x.forget();
        due("whatever is undone", x.trace(), 10101);
        x.gate();
        due("whatever fault", x.trace(), 10101);
        x.type(';', 1);
        x.gate();
        due("whatever is read", x.trace(), 10101);
        Worlds.type(x, Worlds.TEXT);
        x.gate();
        x.mark(0, 0);
        due("and grows", x.trace(), 10102);
    }

    private static void lastCalls() {
        CHECKS.about("an object is used for at most 512 calls");
        ThirstScales x = new ThirstScales();
        for (int i = 0; i < 120; i++) {
            due("type", x.type(Worlds.bytes("load " + i % 10 + "; "), 8), 8);
            due("gate", x.gate(), 1);
            due("keep", x.keep(i % 2), 0);
            due("load", x.load(0), i % 10);
        }
        Worlds.type(x, "taster 9 0 1 3;");
        due("call 483", x.gate(), 1);
        for (int i = 0; i < 28; i++) {
            due("mark", x.mark(2, 0), 6);
        }
        due("call 512", x.trace(), 28 * 101);
    }
}
