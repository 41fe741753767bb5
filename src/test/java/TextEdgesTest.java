/** The text and its gate (promises 1 to 6): a test for each sentence that names an edge. */
public final class TextEdgesTest extends Asking {
    private static final String LOAD = "load 1;", TASTER = "taster 1 0 1 0;";

    public static void main(String[] args) {
        newObject();
        twoHundredBytes();
        pieceThatDoesNotFit();
        lengthOfAPiece();
        lowestBytes();
        clearing();
        blanks();
        blanksAlone();
        blanksNotNeeded();
        noItems();
        mostItems();
        numbersWithinBounds();
        numbersBeyondBounds();
        numbersThatAreNone();
        bytesThatBeginNone();
        wordsThatAreNone();
        tokensThatCannotStand();
        sixthLoad();
        seventhTaster();
        heatToldAgain();
        tooEarly();
        firstFault();
        faultChangesNothing();
        textIsEmptyThen();
        readAnewAsTold();
        readAnewNotTold();
        readAnewForgets();
        loads();
        tasters();
        CHECKS.end();
    }

    private static String blanks(int n) {
        return " ".repeat(n);
    }

    /** The gate tells this fault, and all stays as it was. */
    private static void faultAt(String text, int place) {
        same("gate() of '" + text + "'", -10 - place, () -> {
            ThirstScales x = Worlds.busy();
            x.clear();
            Worlds.type(x, text);
            return x;
        }, ThirstScales::gate);
    }

    private static void items(String text, int items) {
        due("gate() of '" + text + "'", Worlds.gateOf(text), items);
    }

    private static void newObject() {
        sentence(1, "As told; no LOADS, nobody");
        for (int what = 0; what <= 5; what++) {
            due("count(" + what + ")", new ThirstScales().count(what), 0);
        }
        due("load(0)", new ThirstScales().load(0), -1);
        due("taster(0, 0)", new ThirstScales().taster(0, 0), -1);
        due("cups(0, 0, 0)", new ThirstScales().cups(0, 0, 0), -1);
        due("weighs(0, 0)", new ThirstScales().weighs(0, 0), -1);
        due("says(0, 0, 0)", new ThirstScales().says(0, 0, 0), -1);
        due("jug(0, 1, 0, 0, 0)", new ThirstScales().jug(0, 1, 0, 0, 0), -1);
        due("known(0, 0)", new ThirstScales().known(0, 0), -1);
        due("canBe(0, 0)", new ThirstScales().canBe(0, 0), -1);
        due("next(0, 0)", new ThirstScales().next(0, 0), -1);
        due("enough(0, 1)", new ThirstScales().enough(0, 1), -1);
        due("heavier(0, 1)", new ThirstScales().heavier(0, 1), -1);
        due("memory(0, 0, 0, 0)", new ThirstScales().memory(0, 0, 0, 0), -1);
        due("mark(0, 0)", new ThirstScales().mark(0, 0), -1000000);
        due("night()", new ThirstScales().night(), 0);
        due("undo()", new ThirstScales().undo(), -2);
        due("forget()", new ThirstScales().forget(), 0);
        due("bribed()", new ThirstScales().bribed(), 0);
        due("back(0)", new ThirstScales().back(0), -2);
        due("back(1)", new ThirstScales().back(1), -2);
        due("clear()", new ThirstScales().clear(), 0);
        due("gate()", new ThirstScales().gate(), 0);
        sentence(1, "HEAT (0 .. 9; 0 at first)");
        due("heat(5)", new ThirstScales().heat(5), 0);
        sentence(1, "THE TRACE (0 at first;");
        due("trace()", new ThirstScales().trace(), 0);
    }

    private static void twoHundredBytes() {
        sentence(2, "a text (200 bytes at most)");
        ThirstScales x = new ThirstScales();
        for (int i = 1; i <= 25; i++) {
            due("type(.., 8)", x.type(Worlds.bytes("load 1; "), 8), 8 * i);
        }
        for (int n = 1; n <= 8; n++) {
            due("type(.., " + n + ") behind 200", x.type(32, n), -3);
        }
        due("count(5)", x.count(5), 200);
        x.clear();
        due("room again behind clear()", x.type(32, 1), 1);
        ThirstScales read = Worlds.typed(blanks(200));
        read.gate();
        due("room again behind gate()", read.type(32, 8), 8);
        ThirstScales faulty = Worlds.typed(blanks(199) + "?");
        faulty.gate();
        due("none behind a fault", faulty.type(32, 1), -3);
        x = Worlds.typed("load 60;" + blanks(185) + "load 7;");
        due("count(5)", x.count(5), 200);
        due("all 200 are read", x.gate(), 2);
        due("load(1)", x.load(1), 7);
        faultAt(blanks(199) + "?", 199);
        faultAt("load 60;" + blanks(191) + ";", 199);
        faultAt(blanks(193) + "load 61", 198);
        faultAt(blanks(195) + "loads", 195);
        faultAt(blanks(194) + "load 7", 200);
        faultAt("load" + blanks(196), 200);
        faultAt("load " + "9".repeat(195), 5);
        faultAt("l".repeat(200), 0);
    }

    private static void pieceThatDoesNotFit() {
        sentence(2, "Refused, and nothing changes [..] FULL");
        for (int n = 2; n <= 8; n++) {
            int room = n - 1;
            int bytes = n;
            same("type(.., " + n + ") with room for one less", -3,
                () -> Worlds.typed(blanks(200 - room)), x -> x.type(32, bytes));
            due("type(.., " + room + ") fits", Worlds.typed(blanks(200 - room)).type(32, room), 200);
        }
        sentence(2, "the first of these: BAD [..], STATE (as told), FULL");
        same("type(32, 0)", -1, Worlds::full, x -> x.type(32, 0));
        same("type(32, 9)", -1, Worlds::full, x -> x.type(32, 9));
        same("type(32, 2147483647)", -1, Worlds::full, x -> x.type(32, FAR));
    }

    private static void lengthOfAPiece() {
        sentence(2, "n (1 .. 8)");
        for (int n = 1; n <= 8; n++) {
            due("type(32, " + n + ")", new ThirstScales().type(32, n), n);
        }
        for (int n : new int[] {0, 9, -1, -8, 200, 256 + 1, FAR, LOW}) {
            same("type(59, " + n + ")", -1, Worlds::busy, x -> x.type(59, n));
        }
    }

    private static void lowestBytes() {
        sentence(2, "The lowest n (1 .. 8) bytes of v, the highest of them first");
        String text = "load 20;heat 3;taster 4 5 6 3;";
        for (int n = 1; n <= 8; n++) {
            ThirstScales x = new ThirstScales();
            for (int place = 0; place < text.length(); place += n) {
                String piece = text.substring(place, Math.min(place + n, text.length()));
                long above = piece.length() == 8 ? 0 : -1L << 8 * piece.length();
                x.type(above | Worlds.bytes(piece), piece.length());
            }
            due("count(5)", x.count(5), 30);
            due("gate() in pieces of " + n, x.gate(), 3);
            due("load(0)", x.load(0), 20);
            due("taster(0, 1)", x.taster(0, 1), 5);
        }
        due("bytes of 128 and more", typedOnce(Long.MIN_VALUE | 0x20202020202020L, 8).gate(), -10);
        due("the last of eight", typedOnce(0x2020202020202080L, 8).gate(), -17);
        due("all of them 255", typedOnce(-1, 8).gate(), -10);
        due("a byte of 0", typedOnce(0x2000, 2).gate(), -11);
        due("the lowest alone", typedOnce(0x3f3f3f3f3f3f3f20L, 1).gate(), 0);
        due("but the highest", typedOnce(0x3f20202020202020L, 7).gate(), 0);
    }

    private static ThirstScales typedOnce(long v, int n) {
        ThirstScales x = new ThirstScales();
        x.type(v, n);
        return x;
    }

    private static void clearing() {
        sentence(3, "THE TEXT is empty: how many bytes it had");
        due("clear() of none", new ThirstScales().clear(), 0);
        due("clear() of one", Worlds.typed("?").clear(), 1);
        due("clear() of 200", Worlds.typed(blanks(200)).clear(), 200);
        ThirstScales x = Worlds.busy();
        due("clear()", x.clear(), 6);
        due("count(5)", x.count(5), 0);
        due("clear() again", x.clear(), 0);
        Worlds.type(x, "heat 4;");
        due("typed from the first on", x.gate(), 1);
        due("count(2)", x.count(2), 4);
    }

    private static void blanks() {
        sentence(4, "blanks (32) ahead of, between and behind TOKENS as may be");
        items("  load 5;", 1);
        items("load    5  ;", 1);
        items("load 5;   ", 1);
        items("   taster   9   9   9   3   ;   heat   9   ;   ", 2);
        for (int sign = 0; sign < 256; sign++) {
            String between = "load 5" + (char) sign + ";";
            boolean isOfTheNumber = sign >= '0' && sign <= '9';
            if (sign == ' ' || isOfTheNumber) {
                items(between, 1);
            } else {
                faultAt(between, sign == ';' ? 7 : 6);
            }
        }
    }

    private static void blanksAlone() {
        sentence(4, "ITEMS (none, too)");
        items(" ", 0);
        items(blanks(200), 0);
    }

    private static void blanksNotNeeded() {
        sentence(4, "none needed where TOKENS end without");
        items("load5;load60;heat9;taster1 0 1 0;", 4);
        ThirstScales x = Worlds.read("load5;heat9;taster9 9 9 3;");
        due("load(0)", x.load(0), 5);
        due("count(2)", x.count(2), 9);
        due("taster(0, 3)", x.taster(0, 3), 3);
        faultAt("loadload 5;", 0);
        faultAt("taster10 1 0;", 6);
        faultAt("load 5load 6;", 6);
        faultAt("load 5 6;", 7);
    }

    private static void noItems() {
        sentence(4, "ITEMS (none, too)");
        items("", 0);
        ThirstScales x = Worlds.busy();
        x.clear();
        due("gate() of no text", x.gate(), 0);
        due("count(0)", x.count(0), 0);
        due("count(1)", x.count(1), 0);
        sentence(4, "each ended by ;");
        faultAt(";", 0);
        faultAt(";load 5;", 0);
        faultAt("load 5;;", 7);
        faultAt("load 5; ;", 8);
        faultAt("load 5 load 6;", 7);
    }

    private static void mostItems() {
        sentence(4, "(5 of them at most) [..] (6 at most) [..] (once at most)");
        items(LOAD.repeat(5), 5);
        items(TASTER.repeat(6), 6);
        items("heat 0;", 1);
        items(LOAD.repeat(5) + TASTER.repeat(6) + "heat 1;", 12);
        items("heat 1;" + TASTER.repeat(6) + LOAD.repeat(5), 12);
        ThirstScales x = Worlds.most();
        due("count(0)", x.count(0), 5);
        due("count(1)", x.count(1), 6);
    }

    private static void numbersWithinBounds() {
        sentence(4, "a WEIGHT (0 .. 60)");
        for (int w = 0; w <= 60; w++) {
            due("load(0) of load " + w, Worlds.read("load " + w + ";").load(0), w);
        }
        sentence(4, "HEAT (0 .. 9; 0 at first)");
        for (int h = 0; h <= 9; h++) {
            due("count(2) of heat " + h, Worlds.read("heat " + h + ";").count(2), h);
        }
        sentence(4, "A (1 .. 9), B (0 .. 9), D (1 .. 9), T (0 .. 3)");
        int[] least = {1, 0, 1, 0};
        int[] most = {9, 9, 9, 3};
        for (int what = 0; what <= 3; what++) {
            for (int number = least[what]; number <= most[what]; number++) {
                int[] law = {2, 3, 4, 1};
                law[what] = number;
                ThirstScales x = Worlds.read("taster " + law[0] + " " + law[1] + " " + law[2] + " " + law[3] + ";");
                for (int part = 0; part <= 3; part++) {
                    due("taster(0, " + part + ") of " + number + " at " + what, x.taster(0, part), law[part]);
                }
            }
        }
    }

    private static void numbersBeyondBounds() {
        sentence(4, "a NUMBER beyond what it may be, too");
        faultAt("load 61;", 5);
        faultAt("load 99;", 5);
        faultAt("heat 10;", 5);
        faultAt("heat 99;", 5);
        faultAt("taster 0 0 1 0;", 7);
        faultAt("taster 10 0 1 0;", 7);
        faultAt("taster 1 10 1 0;", 9);
        faultAt("taster 1 0 0 0;", 11);
        faultAt("taster 1 0 10 0;", 11);
        faultAt("taster 1 0 1 4;", 13);
        faultAt("taster 1 0 1 9;", 13);
        faultAt("taster 1 0 1 10;", 13);
        faultAt("load 61", 5);
        faultAt("taster 1 0 1 4", 13);
    }

    private static void numbersThatAreNone() {
        sentence(4, "a NUMBER above 99 or with a 0 ahead of others, that TOKEN's");
        for (String number : new String[] {"00", "01", "05", "09", "000", "007", "060", "0".repeat(150),
            "100", "101", "999", "1000", "256", "65536", "4294967296", "4294967297", "4294967301",
            "18446744073709551616", "18446744073709551621", "1".repeat(150)}) {
            faultAt("load " + number + ";", 5);
            faultAt("heat " + number + ";", 5);
            faultAt("load 5;taster " + number + " 0 1 0;", 14);
            faultAt("load 5;taster 1 0 1 " + number + ";", 20);
            faultAt("load 5 " + number + ";", 7);
            faultAt(number + ";", 0);
        }
        items("load 0;heat 0;", 2);
    }

    private static void bytesThatBeginNone() {
        sentence(4, "of a byte that begins none");
        for (int sign = 0; sign < 256; sign++) {
            boolean isOfAWord = sign >= 'a' && sign <= 'z' || sign >= '0' && sign <= '9';
            if (!isOfAWord && sign != ' ' && sign != ';') {
                String none = String.valueOf((char) sign);
                faultAt("load 5; " + none + "load 6;", 8);
                faultAt("load" + none + "5;", 4);
            }
        }
        faultAt("load 5?;", 6);
        faultAt("load -5;", 5);
        faultAt("load 5.0;", 6);
        faultAt("load 5;\n", 7);
    }

    private static void wordsThatAreNone() {
        sentence(4, "a word that is none of these");
        for (String word : new String[] {"a", "z", "l", "loa", "loads", "load".repeat(2), "loae", "moad", "lodd",
            "tast", "taste", "tasters", "tasterr", "uaster", "h", "hea", "heats", "heap", "beat", "loadheat"}) {
            faultAt("load 5; " + word + " 5;", 8);
            faultAt("load " + word + ";", 5);
            faultAt("load 5 " + word + ";", 7);
            faultAt(" " + word, 1);
        }
        faultAt("loadz5;", 0);
        faultAt("zload 5;", 0);
        faultAt("loada5;", 0);
        faultAt("Load 5;", 0);
        faultAt("lOad 5;", 0);
        faultAt("loaD 5;", 0);
        faultAt("lo ad 5;", 0);
        faultAt("load5a;", 5);
    }

    private static void tokensThatCannotStand() {
        sentence(4, "the place of the first byte of the first TOKEN that can't stand there");
        faultAt("5", 0);
        faultAt("  60 load;", 2);
        faultAt("load load 5;", 5);
        faultAt("load ;", 5);
        faultAt("load 5 6;", 7);
        faultAt("load 5 load;", 7);
        faultAt("heat heat;", 5);
        faultAt("heat ;", 5);
        faultAt("heat 5 5;", 7);
        faultAt("taster;", 6);
        faultAt("taster 1;", 8);
        faultAt("taster 1 0;", 10);
        faultAt("taster 1 0 1;", 12);
        faultAt("taster 1 0 1 0 0;", 15);
        faultAt("taster 1 0 1 0 heat 5;", 15);
        faultAt("taster 1 heat 1 0;", 9);
        faultAt("load 5;6;", 7);
    }

    private static void sixthLoad() {
        sentence(4, "a sixth load");
        faultAt(LOAD.repeat(5) + "load 1;", 35);
        faultAt(LOAD.repeat(5) + "  load", 37);
        faultAt(LOAD.repeat(5) + "load 99;", 35);
        faultAt(LOAD.repeat(5) + TASTER + "load ?", 50);
        faultAt(LOAD.repeat(3) + "heat 1;" + LOAD.repeat(2) + " load 1;", 43);
    }

    private static void seventhTaster() {
        sentence(4, "a seventh taster");
        faultAt(TASTER.repeat(6) + TASTER, 90);
        faultAt(TASTER.repeat(6) + "  taster", 92);
        faultAt(TASTER.repeat(6) + "taster 0", 90);
        faultAt(TASTER.repeat(6) + LOAD + "taster ?", 97);
    }

    private static void heatToldAgain() {
        sentence(4, "heat told again");
        faultAt("heat 0;heat 0;", 7);
        faultAt("heat 5;heat 5;", 7);
        faultAt("heat 5; load 1; heat", 16);
        faultAt("heat 0;heat 10;", 7);
        ThirstScales x = Worlds.read("heat 5;");
        Worlds.type(x, "heat 6;");
        due("heat in another text", x.gate(), 1);
        due("count(2)", x.count(2), 6);
    }

    private static void tooEarly() {
        sentence(4, "the text's length, if it ends too early");
        for (String text : new String[] {"load", "load 5", "heat", "heat 0", "taster", "taster 1", "taster 1 0",
            "taster 1 0 1", "taster 1 0 1 0", "load 5;load", "load 5;heat 1;taster 9", "  load  60"}) {
            faultAt(text, text.length());
            faultAt(text + " ", text.length() + 1);
            faultAt(text + blanks(50), text.length() + 50);
        }
        items("load 5;" + blanks(50), 1);
    }

    private static void firstFault() {
        sentence(4, "the first TOKEN");
        faultAt("load 61;?", 5);
        faultAt("?load 61;", 0);
        faultAt("load 5;load 61;taster", 12);
        faultAt("load 5 5 5", 7);
        faultAt("loads 61", 0);
        faultAt(LOAD.repeat(4) + "load 61;load 1;", 33);
        faultAt("taster 0 99 0 4;", 7);
    }

    private static void faultChangesNothing() {
        sentence(4, "nothing changes (THE TEXT, too, stays)");
        faultAt("load 9;taster 9 9 9 3;heat 9;load 9", 35);
        faultAt(LOAD.repeat(5) + "heat 9;" + TASTER.repeat(6) + ";", 132);
        ThirstScales x = Worlds.typed("load 9");
        due("gate()", x.gate(), -16);
        due("gate() again", x.gate(), -16);
        due("count(5)", x.count(5), 6);
        x.type(';', 1);
        due("it may go on", x.gate(), 1);
        due("load(0)", x.load(0), 9);
        x = Worlds.typed(LOAD.repeat(5) + TASTER.repeat(6) + "heat 1;?");
        x.gate();
        x.clear();
        Worlds.type(x, "heat 2;" + LOAD.repeat(5) + TASTER.repeat(6));
        due("what a faulty text told does not count in the next", x.gate(), 12);
    }

    private static void textIsEmptyThen() {
        sentence(4, "THE TEXT tells all, and is empty then");
        ThirstScales x = Worlds.typed("load 9;heat 3;");
        due("gate()", x.gate(), 2);
        due("count(5)", x.count(5), 0);
        due("clear()", x.clear(), 0);
        due("gate() of the empty text", x.gate(), 0);
        due("which tells no loads", x.count(0), 0);
        due("and no heat", x.count(2), 0);
    }

    private static void readAnewAsTold() {
        sentence(4, "Read anew: as told");
        ThirstScales x = Worlds.most();
        Worlds.type(x, "load 3;load 4;load 5;load 6;load 8;heat 1;");
        due("five anew, none beside them", x.gate(), 6);
        due("count(0)", x.count(0), 5);
        due("count(1)", x.count(1), 0);
        due("load(0)", x.load(0), 3);
        due("load(4)", x.load(4), 8);
        due("taster(0, 0)", x.taster(0, 0), -1);
        Worlds.type(x, "taster 9 8 7 1;");
        due("gate()", x.gate(), 1);
        due("count(0)", x.count(0), 0);
        due("load(0)", x.load(0), -1);
        due("taster(0, 2)", x.taster(0, 2), 7);
        due("taster(1, 2)", x.taster(1, 2), -1);
    }

    private static void readAnewNotTold() {
        sentence(4, "what is not told as at first");
        ThirstScales x = Worlds.read("heat 7;");
        Worlds.type(x, LOAD);
        x.gate();
        due("heat of a text ahead", x.count(2), 0);
        x.heat(5);
        Worlds.type(x, LOAD);
        x.gate();
        due("heat by heat()", x.count(2), 0);
        x.heat(5);
        x.gate();
        due("an empty text", x.count(2), 0);
        due("no loads", x.count(0), 0);
    }

    private static void readAnewForgets() {
        ThirstScales x = Worlds.most();
        x.jug(4, 5, 0, 0, 0);
        x.weighs(0, 0);
        x.says(1, 0, 4);
        x.told(1, 1, 1, 1);
        x.keep(0);
        x.keep(1);
        x.mark(5, 0);
        Worlds.type(x, Worlds.MOST);
        x.gate();
        sentence(4, "no LICKS");
        for (int t = 0; t <= 5; t++) {
            due("taster(" + t + ", 4)", x.taster(t, 4), 0);
        }
        due("night()", x.night(), 0);
        sentence(4, "nothing known or told");
        due("count(3)", x.count(3), 0);
        due("known(0, 0)", x.known(0, 0), -1);
        due("canBe(0, 0)", x.canBe(0, 0), 61);
        due("bribed()", x.bribed(), 0);
        due("undo()", x.undo(), -2);
        due("count(4)", x.count(4), 0);
        due("learnt(0)", x.learnt(0), 3240);
        due("forget()", x.forget(), 0);
        sentence(4, "IMAGES are gone");
        due("back(0)", x.back(0), -2);
        due("back(1)", x.back(1), -2);
        sentence(4, "THE TRACE stays");
        due("trace()", x.trace(), 100001);
        ThirstScales empty = Worlds.busy();
        empty.clear();
        empty.gate();
        sentence(4, "IMAGES are gone");
        due("behind an empty text, too: back(0)", empty.back(0), -2);
        sentence(4, "nothing known or told");
        due("behind an empty text, too: count(3)", empty.count(3), 0);
        due("behind an empty text, too: count(4)", empty.count(4), 0);
        sentence(4, "THE TRACE stays");
        due("behind an empty text, too: trace()", empty.trace(), 10101);
        ThirstScales full = Worlds.full();
        full.clear();
        Worlds.type(full, Worlds.TEXT);
        full.gate();
        sentence(4, "nothing known or told");
        due("room for what is known", full.says(0, 0, 0), 1);
        due("which is the first", full.known(0, 5), 1);
        due("of all that is known", full.known(1, 5), -1);
        due("room for tastings", full.told(0, 0, 0, 0), 1);
    }

    private static void loads() {
        sentence(5, "WEIGHT of a LOAD. BAD");
        int[] weights = {20, 60, 0, 21, 7};
        for (int l = 0; l <= 4; l++) {
            due("load(" + l + ")", Worlds.most().load(l), weights[l]);
        }
        for (int l : new int[] {-1, 5, 6, 256, FAR, LOW}) {
            same("load(" + l + ")", -1, Worlds::most, x -> x.load(l));
        }
        due("the last of one", Worlds.read(LOAD).load(0), 1);
        due("one behind it", Worlds.read(LOAD).load(1), -1);
    }

    private static void tasters() {
        sentence(6, "Of a TASTER: 0 A, 1 B, 2 D, 3 T, 4 LICKS. BAD");
        int[][] laws = {{1, 2, 7, 0}, {3, 5, 9, 2}, {9, 9, 1, 3}, {1, 0, 1, 0}, {1, 0, 9, 3}, {2, 0, 4, 1}};
        for (int t = 0; t <= 5; t++) {
            for (int what = 0; what <= 3; what++) {
                due("taster(" + t + ", " + what + ")", Worlds.most().taster(t, what), laws[t][what]);
            }
        }
        for (int t : new int[] {-1, 6, 7, 256, FAR, LOW}) {
            same("taster(" + t + ", 0)", -1, Worlds::most, x -> x.taster(t, 0));
            same("taster(" + t + ", 4)", -1, Worlds::most, x -> x.taster(t, 4));
        }
        for (int what : new int[] {-1, 5, 6, FAR, LOW}) {
            same("taster(5, " + what + ")", -1, Worlds::most, x -> x.taster(5, what));
        }
        sentence(6, "LICKS of a TASTER [..] (0 at first)");
        for (int t = 0; t <= 5; t++) {
            due("taster(" + t + ", 4)", Worlds.most().taster(t, 4), 0);
        }
        sentence(6, "how often he tasted since the last NIGHT");
        ThirstScales x = Worlds.jugged(Worlds.most(), 5, 0, 3);
        x.weighs(5, 1);
        due("taster(5, 4)", x.taster(5, 4), 4);
        due("taster(0, 4)", x.taster(0, 4), 3);
        due("taster(1, 4)", x.taster(1, 4), 0);
        x.night();
        due("taster(5, 4)", x.taster(5, 4), 0);
    }
}
