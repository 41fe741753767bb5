/** Promise by promise: ordinary numbers, the edges that the document names, and wrong ones. */
public final class PromisesTest extends Asking {
    public static void main(String[] args) {
        newObject();
        typing();
        clearing();
        gateReads();
        gateFaults();
        gateForgets();
        loads();
        tasters();
        cups();
        weighings();
        sayings();
        jugs();
        nights();
        heats();
        undoing();
        knowing();
        canBe();
        nextTaster();
        enough();
        heavier();
        tellings();
        forgetting();
        learning();
        mayDrink();
        bribes();
        memories();
        marks();
        images();
        counts();
        traces();
        CHECKS.end();
    }

    private static void newObject() {
        promise(1);
        ThirstScales x = new ThirstScales();
        for (int what = 0; what <= 5; what++) {
            due("count(" + what + ")", x.count(what), 0);
        }
        due("trace()", x.trace(), 0);
        due("load(0)", x.load(0), -1);
        due("taster(0, 0)", x.taster(0, 0), -1);
        due("known(0, 0)", x.known(0, 0), -1);
        due("undo()", x.undo(), -2);
        due("back(0)", x.back(0), -2);
        due("back(1)", x.back(1), -2);
        due("bribed()", x.bribed(), 0);
        due("night()", x.night(), 0);
        due("learnt(0)", x.learnt(0), 3240);
        due("clear()", x.clear(), 0);
    }

    private static void typing() {
        promise(2);
        ThirstScales x = new ThirstScales();
        due("the highest first", x.type(0x6c6f6164L, 4), 4);
        due("the lowest alone", x.type(-1L << 16 | 0x3720L, 2), 6);
        due("eight bytes", x.type(0x20202020202020_3bL, 8), 14);
        due("gate()", x.gate(), 1);
        due("load(0)", x.load(0), 7);
        for (int i = 0; i < 24; i++) {
            x.type(0, 8);
        }
        due("up to 199", x.type(0, 7), 199);
        due("one too many", x.type(0, 2), -3);
        due("two hundred", x.type(0, 1), 200);
        due("full", x.type(0, 1), -3);
        due("BAD ahead of FULL", x.type(0, 9), -1);
        refused("type(0, 0)", -1, y -> y.type(0, 0));
        refused("type(0, 9)", -1, y -> y.type(0, 9));
        refused("type(0, -1)", -1, y -> y.type(0, -1));
        refused("type(0, FAR)", -1, y -> y.type(0, FAR));
        refused("type(0, LOW)", -1, y -> y.type(0, LOW));
        refusedFull("type(32, 1)", -3, y -> y.type(32, 1));
        refusedFull("type(32, 8)", -3, y -> y.type(32, 8));
        ThirstScales signed = new ThirstScales();
        signed.type(-1, 1);
        due("a byte of 255 begins no token", signed.gate(), -10);
    }

    private static void clearing() {
        promise(3);
        ThirstScales x = Worlds.busy();
        due("clear()", x.clear(), 6);
        due("clear()", x.clear(), 0);
        due("count(5)", x.count(5), 0);
        due("what was read stays", x.count(0), 3);
    }

    private static void gateReads() {
        promise(4);
        due("no items", Worlds.gateOf(""), 0);
        due("blanks alone", Worlds.gateOf("   "), 0);
        due("one", Worlds.gateOf("load 5;"), 1);
        due("three", Worlds.gateOf("load 5;heat 0;load 0;"), 3);
        due("without blanks", Worlds.gateOf("load5;taster1 0 1 0;heat9;"), 3);
        due("blanks all over", Worlds.gateOf("  load   60  ;  taster  9  9  9  3  ;  heat  9  ;  "), 3);
        due("five loads, six tasters, heat", Worlds.gateOf("load 1;load 1;load 1;load 1;load 1;heat 1;"
            + "taster1 0 1 0;taster1 0 1 0;taster1 0 1 0;taster1 0 1 0;taster1 0 1 0;taster1 0 1 0;"), 12);
    }

    private static void gateFaults() {
        promise(4);
        due("a semicolon alone", Worlds.gateOf(";"), -10);
        due("a number alone", Worlds.gateOf("  5"), -12);
        due("a tab", Worlds.gateOf("load\t5;"), -14);
        due("a capital letter", Worlds.gateOf("loadA5;"), -14);
        due("a word too long", Worlds.gateOf("loads 5;"), -10);
        due("a word but for its first letter", Worlds.gateOf("road 5;"), -10);
        due("a word but for its last letter", Worlds.gateOf("load 5;tasted 1 0 1 0;"), -17);
        due("a word with a z", Worlds.gateOf("loadz 5;"), -10);
        due("a word too short", Worlds.gateOf("load 5; loa"), -18);
        due("a word where a number is due", Worlds.gateOf("load heat 5;"), -15);
        due("a number where ; is due", Worlds.gateOf("load 5 5;"), -17);
        due("61", Worlds.gateOf("load 61;"), -15);
        due("100", Worlds.gateOf("load 100;"), -15);
        due("a long number", Worlds.gateOf("load 4294967301;"), -15);
        due("00", Worlds.gateOf("load 00;"), -15);
        due("01", Worlds.gateOf("load 01;"), -15);
        due("A 0", Worlds.gateOf("taster 0 0 1 0;"), -17);
        due("A 10", Worlds.gateOf("taster 10 0 1 0;"), -17);
        due("B 10", Worlds.gateOf("taster 1 10 1 0;"), -19);
        due("D 0", Worlds.gateOf("taster 1 0 0 0;"), -21);
        due("T 4", Worlds.gateOf("taster 1 0 1 4;"), -23);
        due("heat 10", Worlds.gateOf("heat 10;"), -15);
        due("heat again", Worlds.gateOf("heat 0; heat 0;"), -18);
        due("a sixth load", Worlds.gateOf("load1;load1;load1;load1;load1; load 1;"), -41);
        due("a seventh taster", Worlds.gateOf("taster1 0 1 0;taster1 0 1 0;taster1 0 1 0;"
            + "taster1 0 1 0;taster1 0 1 0;taster1 0 1 0;taster 0"), -94);
        due("too early behind a word", Worlds.gateOf("load"), -14);
        due("too early behind a number", Worlds.gateOf("load 1"), -16);
        due("too early behind blanks", Worlds.gateOf("taster 1 2  "), -22);
        due("the first fault of two", Worlds.gateOf("load 61; ?"), -15);
        same("gate() with a fault behind right items", -10 - 21, () -> {
            ThirstScales x = Worlds.busy();
            x.clear();
            Worlds.type(x, "load 9;heat 1;load 9 ?");
            return x;
        }, y -> y.gate());
        refused("gate() too early", -16, y -> y.gate());
        ThirstScales x = Worlds.busy();
        x.gate();
        x.type(';', 1);
        due("the text of a fault may go on", x.gate(), 1);
    }

    private static void gateForgets() {
        promise(4);
        ThirstScales x = Worlds.busy();
        x.keep(1);
        x.heat(7);
        x.type(';', 1);
        long before = x.trace();
        due("gate()", x.gate(), 1);
        due("loads", x.count(0), 1);
        due("load(0)", x.load(0), 1);
        due("tasters", x.count(1), 0);
        due("heat", x.count(2), 0);
        due("known", x.count(3), 0);
        due("tastings", x.count(4), 0);
        due("bytes", x.count(5), 0);
        due("back(0)", x.back(0), -2);
        due("back(1)", x.back(1), -2);
        due("night()", x.night(), 0);
        due("trace()", x.trace(), before);
        x = Worlds.busy();
        x.clear();
        Worlds.type(x, Worlds.TEXT);
        x.gate();
        due("no licks any more", x.taster(1, 4), 0);
        x.weighs(1, 1);
        due("known anew from the first on", x.known(0, 4), 20);
        x.told(60, 0, 9, 558);
        due("told anew from the first on", x.learnt(0), 4);
        due("an empty text tells nothing", x.gate(), 0);
        due("no loads any more", x.load(0), -1);
    }

    private static void loads() {
        promise(5);
        ThirstScales x = Worlds.busy();
        due("load(0)", x.load(0), 20);
        due("load(1)", x.load(1), 60);
        due("load(2)", x.load(2), 0);
        refused("load(3)", -1, y -> y.load(3));
        refused("load(-1)", -1, y -> y.load(-1));
        refused("load(FAR)", -1, y -> y.load(FAR));
        refused("load(LOW)", -1, y -> y.load(LOW));
    }

    private static void tasters() {
        promise(6);
        ThirstScales x = Worlds.busy();
        int[][] due = {{1, 2, 7, 0, 2}, {3, 5, 9, 2, 2}, {9, 9, 1, 3, 1}};
        for (int t = 0; t < 3; t++) {
            for (int what = 0; what <= 4; what++) {
                due("taster(" + t + ", " + what + ")", x.taster(t, what), due[t][what]);
            }
        }
        refused("taster(3, 0)", -1, y -> y.taster(3, 0));
        refused("taster(-1, 0)", -1, y -> y.taster(-1, 0));
        refused("taster(0, 5)", -1, y -> y.taster(0, 5));
        refused("taster(0, -1)", -1, y -> y.taster(0, -1));
        refused("taster(FAR, LOW)", -1, y -> y.taster(FAR, LOW));
    }

    private static void cups() {
        promise(7);
        ThirstScales x = Worlds.busy();
        due("cups(0, 20, 0)", x.cups(0, 20, 0), 3);
        due("cups(1, 20, 0)", x.cups(1, 20, 0), 7);
        due("cups(1, 20, 3)", x.cups(1, 20, 3), 6);
        due("cups(2, 60, 0)", x.cups(2, 60, 0), 551);
        due("cups(2, 60, 99)", x.cups(2, 60, 99), 254);
        due("0 at least, ahead of B and heat", x.cups(2, 1, 99), 11);
        x.heat(9);
        due("by this heat", x.cups(2, 0, 0), 18);
        refused("cups(3, 0, 0)", -1, y -> y.cups(3, 0, 0));
        refused("cups(0, 61, 0)", -1, y -> y.cups(0, 61, 0));
        refused("cups(0, -1, 0)", -1, y -> y.cups(0, -1, 0));
        refused("cups(0, 0, 100)", -1, y -> y.cups(0, 0, 100));
        refused("cups(0, 0, -1)", -1, y -> y.cups(0, 0, -1));
    }

    private static void weighings() {
        promise(8);
        ThirstScales x = Worlds.read(Worlds.TEXT);
        due("weighs(1, 0)", x.weighs(1, 0), 7);
        due("weighs(1, 0), tired", x.weighs(1, 0), 7);
        due("weighs(1, 0), more tired", x.weighs(1, 0), 7);
        due("weighs(1, 0), still more", x.weighs(1, 0), 6);
        due("licks", x.taster(1, 4), 4);
        due("licks of another", x.taster(0, 4), 0);
        due("known(3, 1)", x.known(3, 1), 3);
        due("known(3, 4)", x.known(3, 4), 6);
        due("known(3, 5)", x.known(3, 5), 0);
        for (int i = 4; i < 12; i++) {
            due("weighs(2, 2)", x.weighs(2, 2), 11);
        }
        due("a thirteenth", x.weighs(2, 2), -3);
        refused("weighs(3, 0)", -1, y -> y.weighs(3, 0));
        refused("weighs(-1, 0)", -1, y -> y.weighs(-1, 0));
        refused("weighs(0, 3)", -1, y -> y.weighs(0, 3));
        refused("weighs(0, -1)", -1, y -> y.weighs(0, -1));
        refusedFull("weighs(0, 0)", -3, y -> y.weighs(0, 0));
        refusedFull("weighs(3, 0)", -1, y -> y.weighs(3, 0));
    }

    private static void sayings() {
        promise(9);
        ThirstScales x = Worlds.read(Worlds.TEXT);
        x.weighs(1, 1);
        due("says(1, 0, 0)", x.says(1, 0, 0), 2);
        due("says(1, 2, 99)", x.says(1, 2, 99), 3);
        due("no lick", x.taster(1, 4), 1);
        int[] due = {1, 1, 2, 2, 99, 1};
        for (int what = 0; what <= 5; what++) {
            due("known(2, " + what + ")", x.known(2, what), due[what]);
        }
        refused("says(3, 0, 0)", -1, y -> y.says(3, 0, 0));
        refused("says(0, 3, 0)", -1, y -> y.says(0, 3, 0));
        refused("says(0, 0, 100)", -1, y -> y.says(0, 0, 100));
        refused("says(0, 0, -1)", -1, y -> y.says(0, 0, -1));
        refusedFull("says(0, 0, 0)", -3, y -> y.says(0, 0, 0));
        refusedFull("says(0, 0, 100)", -1, y -> y.says(0, 0, 100));
    }

    private static void jugs() {
        promise(10);
        ThirstScales x = Worlds.read(Worlds.TEXT);
        due("enough for both", x.jug(0, 1, 0, 999, 0), 10);
        due("what the second one did", x.jug(0, 2, 0, 999, 1), 191);
        due("some for the second", x.jug(0, 2, 0, 5, 1), 2);
        due("both", x.jug(0, 2, 0, 5, 0), 5);
        due("none for the second", x.jug(2, 0, 0, 5, 1), 0);
        due("no cups", x.jug(2, 0, 0, 0, 0), 0);
        due("licks, of 0 cups, too", x.taster(0, 4), 6);
        due("licks", x.taster(1, 4), 1);
        due("licks", x.taster(2, 4), 5);
        due("tired in the jug", x.jug(2, 1, 0, 999, 0), 191 - 15 + 7);
        due("not known", x.count(3), 0);
        refused("jug(0, 0, 0, 5, 0)", -1, y -> y.jug(0, 0, 0, 5, 0));
        refused("jug(3, 0, 0, 5, 0)", -1, y -> y.jug(3, 0, 0, 5, 0));
        refused("jug(0, 3, 0, 5, 0)", -1, y -> y.jug(0, 3, 0, 5, 0));
        refused("jug(0, 1, 3, 5, 0)", -1, y -> y.jug(0, 1, 3, 5, 0));
        refused("jug(0, 1, 0, 1000, 0)", -1, y -> y.jug(0, 1, 0, 1000, 0));
        refused("jug(0, 1, 0, -1, 0)", -1, y -> y.jug(0, 1, 0, -1, 0));
        refused("jug(0, 1, 0, 5, 2)", -1, y -> y.jug(0, 1, 0, 5, 2));
        refused("jug(0, 1, 0, 5, -1)", -1, y -> y.jug(0, 1, 0, 5, -1));
        due("room for a jug when all is known", Worlds.full().jug(0, 1, 0, 2, 0), 2);
    }

    private static void nights() {
        promise(11);
        ThirstScales x = Worlds.busy();
        due("night()", x.night(), 5);
        due("night()", x.night(), 0);
        due("taster(1, 4)", x.taster(1, 4), 0);
        due("what is known stays", x.count(3), 4);
        due("licks as they were", x.known(2, 1), 1);
    }

    private static void heats() {
        promise(12);
        ThirstScales x = Worlds.busy();
        due("heat(9)", x.heat(9), 2);
        due("heat(0)", x.heat(0), 9);
        due("count(2)", x.count(2), 0);
        due("heat as it was", x.known(0, 2), 2);
        refused("heat(10)", -1, y -> y.heat(10));
        refused("heat(-1)", -1, y -> y.heat(-1));
        refused("heat(FAR)", -1, y -> y.heat(FAR));
    }

    private static void undoing() {
        promise(13);
        ThirstScales x = Worlds.busy();
        due("a saying", x.undo(), 3);
        due("no lick less by it", x.taster(2, 4), 1);
        due("a weighing", x.undo(), 2);
        due("a lick less", x.taster(1, 4), 1);
        x.night();
        due("a weighing of the day ahead", x.undo(), 1);
        due("0 at least", x.taster(1, 4), 0);
        due("the last", x.undo(), 0);
        same("undo()", -2, () -> Worlds.read(Worlds.TEXT), y -> y.undo());
        ThirstScales filled = Worlds.full();
        due("undo()", filled.undo(), 11);
        due("room again", filled.says(0, 0, 5), 12);
        due("known(11, 4)", filled.known(11, 4), 5);
    }

    private static void knowing() {
        promise(14);
        ThirstScales x = Worlds.busy();
        int[][] due = {{0, 0, 2, 0, 3, 0}, {1, 0, 2, 0, 7, 0}, {1, 1, 2, 1, 20, 0}, {2, 0, 2, 0, 9, 1}};
        for (int i = 0; i < 4; i++) {
            for (int what = 0; what <= 5; what++) {
                due("known(" + i + ", " + what + ")", x.known(i, what), due[i][what]);
            }
        }
        refused("known(4, 0)", -1, y -> y.known(4, 0));
        refused("known(-1, 0)", -1, y -> y.known(-1, 0));
        refused("known(0, 6)", -1, y -> y.known(0, 6));
        refused("known(0, -1)", -1, y -> y.known(0, -1));
        refused("known(FAR, 0)", -1, y -> y.known(FAR, 0));
        refused("known(LOW, 0)", -1, y -> y.known(LOW, 0));
    }

    private static void canBe() {
        promise(15);
        ThirstScales x = Worlds.read("load 20;load 0;taster 1 2 7 0;taster 3 5 9 2;heat 2;");
        due("canBe(0, 0)", x.canBe(0, 0), 61);
        due("canBe(0, 1)", x.canBe(0, 1), 0);
        due("canBe(0, 2)", x.canBe(0, 2), 60);
        x.weighs(0, 0);
        due("canBe(0, 0)", x.canBe(0, 0), 7);
        due("canBe(0, 1)", x.canBe(0, 1), 17);
        due("canBe(0, 2)", x.canBe(0, 2), 23);
        x.weighs(1, 0);
        due("canBe(0, 0)", x.canBe(0, 0), 3);
        due("canBe(0, 1)", x.canBe(0, 1), 19);
        due("canBe(0, 2)", x.canBe(0, 2), 21);
        x.heat(9);
        x.night();
        x.says(0, 0, 99);
        due("another heat, a night, a saying", x.canBe(0, 0), 3);
        due("another load", x.canBe(1, 0), 61);
        ThirstScales none = Worlds.read("load 0;load 60;taster 1 0 1 0;");
        none.weighs(0, 0);
        none.weighs(0, 1);
        due("0 alone", none.canBe(0, 2), 0);
        due("60 alone", none.canBe(1, 1), 60);
        promise(16);
        due("one weight is left anyway", none.next(0, 1), 1);
        promise(15);
        refused("canBe(3, 0)", -1, y -> y.canBe(3, 0));
        refused("canBe(-1, 0)", -1, y -> y.canBe(-1, 0));
        refused("canBe(0, 3)", -1, y -> y.canBe(0, 3));
        refused("canBe(0, -1)", -1, y -> y.canBe(0, -1));
    }

    private static void nextTaster() {
        promise(16);
        ThirstScales x = Worlds.read("load 0;taster 1 0 9 0;taster 1 0 4 3;taster 1 0 4 0;");
        due("the first of two", x.next(0, 0), 1);
        due("left at worst", x.next(0, 1), 4);
        x.jug(0, 1, 0, 9, 0);
        due("with his licks", x.next(0, 0), 2);
        due("left at worst", x.next(0, 1), 4);
        x.heat(1);
        due("nothing is known by it", x.count(3), 0);
        due("the first span is shorter", Worlds.read("load 0;taster 1 8 9 0;").next(0, 1), 9);
        due("the last span is shorter", Worlds.read("load 0;taster 1 0 9 0;").next(0, 1), 9);
        ThirstScales hot = Worlds.read("load 0;taster 1 0 9 0;taster 1 1 8 0;");
        hot.weighs(0, 0);
        due("by this heat", hot.next(0, 1), 7);
        hot.heat(4);
        due("by another heat", hot.next(0, 0), 0);
        due("by another heat", hot.next(0, 1), 5);
        ThirstScales none = Worlds.read("load 5;");
        due("no tasters", none.next(0, 0), -9);
        due("no tasters", none.next(0, 1), -9);
        due("BAD ahead of NONE", none.next(0, 2), -1);
        refused("next(3, 0)", -1, y -> y.next(3, 0));
        refused("next(-1, 0)", -1, y -> y.next(-1, 0));
        refused("next(0, 2)", -1, y -> y.next(0, 2));
        refused("next(0, -1)", -1, y -> y.next(0, -1));
        refusedFull("next(0, 2)", -1, y -> y.next(0, 2));
    }

    private static void enough() {
        promise(17);
        ThirstScales x = Worlds.read("load 20;load 21;load 60;taster 1 0 7 0;taster 1 2 7 0;taster 3 5 9 2;heat 2;");
        due("enough(0, 1)", x.enough(0, 1), -9);
        due("enough(0, 2)", x.enough(0, 2), 2);
        due("enough(0, 3)", x.enough(0, 3), 1);
        due("enough(0, 60)", x.enough(0, 60), 1);
        due("enough(0, 61)", x.enough(0, 61), 0);
        x.weighs(0, 0);
        x.weighs(1, 0);
        x.weighs(2, 0);
        due("by licks that grow", x.enough(0, 1), 3);
        due("nothing changes", x.taster(2, 4), 1);
        ThirstScales tired = Worlds.read("load 20;taster 1 0 4 1;taster 1 0 2 0;");
        tired.weighs(1, 0);
        due("20 or 21", tired.canBe(0, 0), 2);
        due("by his second lick alone", tired.enough(0, 1), 2);
        tired.jug(0, 1, 0, 0, 0);
        due("which is his next now", tired.enough(0, 1), 1);
        ThirstScales none = Worlds.read("load 5;");
        due("no tasters", none.enough(0, 61), 0);
        due("no tasters", none.enough(0, 60), -9);
        refused("enough(3, 1)", -1, y -> y.enough(3, 1));
        refused("enough(-1, 1)", -1, y -> y.enough(-1, 1));
        refused("enough(0, 0)", -1, y -> y.enough(0, 0));
        refused("enough(0, 62)", -1, y -> y.enough(0, 62));
        due("when all is known, too", Worlds.full().enough(2, 61), 0);
    }

    private static void heavier() {
        promise(18);
        ThirstScales x = Worlds.read("load 20;load 21;load 60;taster 1 0 1 0;taster 1 0 9 0;");
        due("heavier(2, 0)", x.heavier(2, 0), 0);
        x.weighs(1, 0);
        x.weighs(1, 1);
        due("the same span", x.heavier(1, 0), 0);
        x.weighs(0, 1);
        due("one within the span", x.heavier(1, 0), 0);
        x.weighs(0, 0);
        due("just above", x.heavier(1, 0), 1);
        due("just below", x.heavier(0, 1), -2);
        due("not weighed", x.heavier(2, 0), 0);
        x.weighs(0, 2);
        due("above", x.heavier(2, 0), 1);
        ThirstScales same = Worlds.read("load 20;load 20;taster 1 0 1 0;");
        same.weighs(0, 0);
        same.weighs(0, 1);
        due("as heavy", same.heavier(0, 1), 0);
        refused("heavier(0, 0)", -1, y -> y.heavier(0, 0));
        refused("heavier(3, 0)", -1, y -> y.heavier(3, 0));
        refused("heavier(0, 3)", -1, y -> y.heavier(0, 3));
        refused("heavier(-1, 0)", -1, y -> y.heavier(-1, 0));
    }

    private static void tellings() {
        promise(19);
        ThirstScales x = new ThirstScales();
        due("the least", x.told(0, 0, 0, 0), 1);
        due("the greatest", x.told(60, 9, 9, 999), 2);
        for (int i = 3; i <= 8; i++) {
            due("told(1, 1, 1, 1)", x.told(1, 1, 1, 1), i);
        }
        due("a ninth", x.told(1, 1, 1, 1), -3);
        refused("told(61, 0, 0, 0)", -1, y -> y.told(61, 0, 0, 0));
        refused("told(-1, 0, 0, 0)", -1, y -> y.told(-1, 0, 0, 0));
        refused("told(0, 10, 0, 0)", -1, y -> y.told(0, 10, 0, 0));
        refused("told(0, -1, 0, 0)", -1, y -> y.told(0, -1, 0, 0));
        refused("told(0, 0, 10, 0)", -1, y -> y.told(0, 0, 10, 0));
        refused("told(0, 0, -1, 0)", -1, y -> y.told(0, 0, -1, 0));
        refused("told(0, 0, 0, 1000)", -1, y -> y.told(0, 0, 0, 1000));
        refused("told(0, 0, 0, -1)", -1, y -> y.told(0, 0, 0, -1));
        refusedFull("told(0, 0, 0, 0)", -3, y -> y.told(0, 0, 0, 0));
        refusedFull("told(0, 0, 0, 1000)", -1, y -> y.told(0, 0, 0, 1000));
    }

    private static void forgetting() {
        promise(20);
        ThirstScales x = Worlds.full();
        due("forget()", x.forget(), 8);
        due("forget()", x.forget(), 0);
        due("learnt(0)", x.learnt(0), 3240);
        due("what is known stays", x.count(3), 12);
        due("room again", x.told(1, 1, 1, 1), 1);
    }

    private static void learning() {
        promise(21);
        ThirstScales x = new ThirstScales();
        int[] all = {3240, 1, 0, 1, 0};
        for (int what = 0; what <= 4; what++) {
            due("nothing told: learnt(" + what + ")", x.learnt(what), all[what]);
        }
        x.told(10, 0, 0, 4);
        int[] some = {168, 1, 2, 3, 0};
        for (int what = 0; what <= 4; what++) {
            due("one told: learnt(" + what + ")", x.learnt(what), some[what]);
        }
        x.forget();
        x.told(60, 0, 9, 558);
        x.told(60, 1, 0, 546);
        int[] one = {1, 9, 9, 1, 3};
        for (int what = 0; what <= 4; what++) {
            due("the last law: learnt(" + what + ")", x.learnt(what), one[what]);
        }
        x.told(60, 0, 9, 557);
        int[] none = {0, -9, -9, -9, -9};
        for (int what = 0; what <= 4; what++) {
            due("no law: learnt(" + what + ")", x.learnt(what), none[what]);
        }
        x.forget();
        x.told(60, 0, 9, 69);
        x.told(60, 9, 0, 60);
        x.told(0, 0, 0, 0);
        due("the first law", x.learnt(0), 1);
        due("of the first law", x.may(60, 0, 9, 0), 69);
        due("of the first law", x.may(60, 0, 9, 1), 69);
        refused("learnt(5)", -1, y -> y.learnt(5));
        refused("learnt(-1)", -1, y -> y.learnt(-1));
        refused("learnt(LOW)", -1, y -> y.learnt(LOW));
    }

    private static void mayDrink() {
        promise(22);
        ThirstScales x = new ThirstScales();
        due("the least of all", x.may(10, 0, 0, 0), 1);
        due("the greatest of all", x.may(10, 0, 0, 1), 99);
        due("the least of all", x.may(0, 9, 0, 0), 0);
        due("the greatest of all", x.may(60, 0, 9, 1), 558);
        x.told(10, 0, 0, 4);
        x.told(60, 0, 0, 20);
        x.told(60, 9, 0, 17);
        due("may(30, 5, 5, 0)", x.may(30, 5, 5, 0), 9);
        due("may(30, 5, 5, 1)", x.may(30, 5, 5, 1), 10);
        x.told(10, 0, 0, 5);
        due("no law", x.may(10, 0, 0, 0), -9);
        due("no law", x.may(10, 0, 0, 1), -9);
        due("BAD ahead of NONE", x.may(61, 0, 0, 1), -1);
        refused("may(61, 0, 0, 0)", -1, y -> y.may(61, 0, 0, 0));
        refused("may(-1, 0, 0, 0)", -1, y -> y.may(-1, 0, 0, 0));
        refused("may(0, 10, 0, 0)", -1, y -> y.may(0, 10, 0, 0));
        refused("may(0, -1, 0, 0)", -1, y -> y.may(0, -1, 0, 0));
        refused("may(0, 0, 10, 0)", -1, y -> y.may(0, 0, 10, 0));
        refused("may(0, 0, -1, 0)", -1, y -> y.may(0, 0, -1, 0));
        refused("may(0, 0, 0, 2)", -1, y -> y.may(0, 0, 0, 2));
        refused("may(0, 0, 0, -1)", -1, y -> y.may(0, 0, 0, -1));
    }

    private static void bribes() {
        promise(23);
        ThirstScales x = Worlds.read(Worlds.TEXT);
        due("nobody", x.bribed(), 0);
        x.says(0, 0, 3);
        x.says(1, 0, 7);
        due("the truth", x.bribed(), 0);
        x.says(2, 0, 99);
        due("bribed()", x.bribed(), 4);
        x.jug(1, 0, 0, 0, 0);
        x.jug(1, 0, 0, 0, 0);
        x.jug(1, 0, 0, 0, 0);
        x.heat(0);
        due("licks and heat as they were", x.bribed(), 4);
        x.says(1, 0, 7);
        due("by licks and heat of now", x.bribed(), 6);
        x.says(0, 1, 0);
        due("all", x.bribed(), 7);
        x.undo();
        x.undo();
        due("undone", x.bribed(), 4);
        ThirstScales first = Worlds.read(Worlds.TEXT);
        first.says(0, 0, 4);
        due("the first that is known", first.bribed(), 1);
        ThirstScales weighed = Worlds.read(Worlds.TEXT);
        weighed.weighs(2, 1);
        due("a weighing is no bribe", weighed.bribed(), 0);
    }

    private static void memories() {
        promise(24);
        ThirstScales x = Worlds.read("load 7;taster 1 0 1 0;taster 1 0 9 3;heat 1;");
        due("memory(0, 5, 0, 0)", x.memory(0, 5, 0, 0), 4);
        due("memory(0, 5, 0, 1)", x.memory(0, 5, 0, 1), 4);
        due("memory(0, 5, 3, 0)", x.memory(0, 5, 3, 0), 1);
        due("memory(0, 5, 3, 1)", x.memory(0, 5, 3, 1), 7);
        due("memory(1, 5, 0, 0)", x.memory(1, 5, 0, 0), 44);
        due("memory(1, 5, 0, 1)", x.memory(1, 5, 0, 1), 52);
        due("memory(1, 5, 20, 0)", x.memory(1, 5, 20, 0), 0);
        due("memory(1, 5, 20, 1)", x.memory(1, 5, 20, 1), 60);
        due("memory(0, 82, 20, 0)", x.memory(0, 82, 20, 0), -9);
        due("memory(0, 81, 20, 1)", x.memory(0, 81, 20, 1), 60);
        due("memory(0, 999, 20, 1)", x.memory(0, 999, 20, 1), -9);
        for (int i = 0; i < 5; i++) {
            x.weighs(1, 0);
        }
        due("no licks", x.memory(1, 5, 0, 0), 44);
        x.heat(0);
        due("this heat", x.memory(1, 5, 0, 0), 45);
        due("no cups told", x.memory(1, 0, 0, 1), 8);
        refused("memory(3, 0, 0, 0)", -1, y -> y.memory(3, 0, 0, 0));
        refused("memory(-1, 0, 0, 0)", -1, y -> y.memory(-1, 0, 0, 0));
        refused("memory(0, 1000, 0, 0)", -1, y -> y.memory(0, 1000, 0, 0));
        refused("memory(0, -1, 0, 0)", -1, y -> y.memory(0, -1, 0, 0));
        refused("memory(0, 0, 21, 0)", -1, y -> y.memory(0, 0, 21, 0));
        refused("memory(0, 0, -1, 0)", -1, y -> y.memory(0, 0, -1, 0));
        refused("memory(0, 0, 0, 2)", -1, y -> y.memory(0, 0, 0, 2));
        refused("memory(0, 0, 0, -1)", -1, y -> y.memory(0, 0, 0, -1));
    }

    private static void marks() {
        promise(25);
        ThirstScales x = Worlds.read(Worlds.TEXT);
        x.jug(1, 2, 0, 0, 0);
        x.weighs(1, 0);
        int[][] due = {{1, 1, 1, 2, 1, 3}, {3, 5, 1, 10, 2, 5}, {9, 10, 6, 20, 8, 11}};
        int[] traced = {1, 11, 101, 1011, 10101, 100001};
        for (int t = 0; t < 3; t++) {
            for (int kind = 0; kind <= 5; kind++) {
                long before = x.trace();
                due("mark(" + kind + ", " + t + ")", x.mark(kind, t), due[t][kind]);
                due("the trace of it", x.trace() - before, traced[kind]);
            }
        }
        due("below 0", Worlds.read("taster 1 0 1 3;").mark(2, 0), -2);
        refused("mark(6, 0)", -1000000, y -> y.mark(6, 0));
        refused("mark(-1, 0)", -1000000, y -> y.mark(-1, 0));
        refused("mark(0, 3)", -1000000, y -> y.mark(0, 3));
        refused("mark(0, -1)", -1000000, y -> y.mark(0, -1));
        refused("mark(FAR, LOW)", -1000000, y -> y.mark(FAR, LOW));
    }

    private static void images() {
        ThirstScales x = Worlds.busy();
        promise(26);
        due("keep(1)", x.keep(1), 4);
        due("the trace is no part of it", x.trace(), 10101);
        x.heat(8);
        x.night();
        x.undo();
        due("keep(0) again", x.keep(0), 3);
        refused("keep(2)", -1, y -> y.keep(2));
        refused("keep(-1)", -1, y -> y.keep(-1));
        promise(27);
        x.told(1, 1, 1, 1);
        x.mark(0, 0);
        x.clear();
        due("back(1)", x.back(1), 4);
        due("heat", x.count(2), 2);
        due("licks", x.taster(1, 4), 2);
        due("known(3, 5)", x.known(3, 5), 1);
        due("tastings stay", x.count(4), 2);
        due("the trace stays", x.trace(), 10102);
        due("the text stays", x.count(5), 0);
        due("back(0)", x.back(0), 3);
        due("heat", x.count(2), 8);
        due("licks", x.taster(1, 4), 0);
        x.weighs(0, 0);
        x.heat(1);
        due("an image does not follow", x.back(0), 3);
        due("heat", x.count(2), 8);
        due("nor does the other one", x.back(1), 4);
        refused("back(1)", -2, y -> y.back(1));
        refused("back(2)", -1, y -> y.back(2));
        refused("back(-1)", -1, y -> y.back(-1));
    }

    private static void counts() {
        promise(28);
        ThirstScales x = Worlds.busy();
        int[] due = {3, 3, 2, 4, 1, 6};
        for (int what = 0; what <= 5; what++) {
            due("count(" + what + ")", x.count(what), due[what]);
        }
        refused("count(6)", -1, y -> y.count(6));
        refused("count(-1)", -1, y -> y.count(-1));
        refused("count(LOW)", -1, y -> y.count(LOW));
    }

    private static void traces() {
        promise(29);
        ThirstScales x = Worlds.busy();
        due("trace()", x.trace(), 10101);
        x.mark(5, 0);
        x.back(0);
        x.mark(3, 0);
        due("of all calls together", x.trace(), 111113);
        x.type(';', 1);
        x.gate();
        due("read anew", x.trace(), 111113);
    }
}
