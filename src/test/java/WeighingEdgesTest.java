/** Cups and weighings (promises 7 to 14): a test for each sentence that names an edge. */
public final class WeighingEdgesTest extends Asking {
    private static final int[] OUTSIDE_TASTERS = {-1, 3, 4, 256, FAR, LOW};
    private static final int[] OUTSIDE_LOADS = OUTSIDE_TASTERS;

    public static void main(String[] args) {
        cupsBounds();
        cupsOfTiredTongues();
        cupsAreCut();
        cupsByHeat();
        weighsBounds();
        weighsALick();
        weighsIsKnown();
        weighsTwelve();
        manyLicks();
        saysBounds();
        saysNoLick();
        saysTwelve();
        jugBounds();
        jugRunsOut();
        jugLicks();
        jugIsNotKnown();
        nights();
        heats();
        undoNothing();
        undoLicks();
        undoTheLatest();
        undoMakesRoom();
        knownBounds();
        knownAsItWas();
        CHECKS.end();
    }

    private static ThirstScales taster(String law) {
        return Worlds.read("load 20;load 60;load 0;taster " + law + ";taster 1 0 1 0;");
    }

    private static void cupsBounds() {
        sentence(7, "a WEIGHT (0 .. 60), with LICKS (0 .. 99)");
        same("cups(2, 0, 0)", 11, Worlds::busy, x -> x.cups(2, 0, 0));
        same("cups(2, 60, 0)", 551, Worlds::busy, x -> x.cups(2, 60, 0));
        same("cups(2, 60, 99)", 254, Worlds::busy, x -> x.cups(2, 60, 99));
        same("cups(2, 0, 99)", 11, Worlds::busy, x -> x.cups(2, 0, 99));
        for (int number : new int[] {-1, 61, 62, 99, 256, FAR, LOW}) {
            bad("cups(0, " + number + ", 0)", x -> x.cups(0, number, 0));
        }
        for (int number : new int[] {-1, 100, 101, 256, FAR, LOW}) {
            bad("cups(0, 0, " + number + ")", x -> x.cups(0, 0, number));
        }
        for (int t : OUTSIDE_TASTERS) {
            bad("cups(" + t + ", 0, 0)", x -> x.cups(t, 0, 0));
        }
        sentence(7, "with LICKS (0 .. 99)");
        due("his own do not matter", Worlds.jugged(taster("1 0 1 3"), 0, 1, 9).cups(0, 20, 0), 20);
    }

    private static void cupsOfTiredTongues() {
        sentence(7, "(A times WEIGHT) less (T times LICKS), 0 at least");
        ThirstScales x = taster("2 5 4 3");
        due("one more than 0", x.cups(0, 2, 1), 1);
        due("cups(0, 3, 1): 3 and 5", x.cups(0, 3, 1), 2);
        due("cups(0, 3, 2): 0 and 5", x.cups(0, 3, 2), 1);
        due("cups(0, 3, 3): less than 0", x.cups(0, 3, 3), 1);
        due("cups(0, 0, 99)", x.cups(0, 0, 99), 1);
        due("cups(0, 60, 40): 0 and 5", x.cups(0, 60, 40), 1);
        due("cups(0, 60, 39): 3 and 5", x.cups(0, 60, 39), 2);
        ThirstScales one = taster("1 0 1 1");
        due("one left", one.cups(0, 5, 4), 1);
        due("none left", one.cups(0, 5, 5), 0);
        due("none left by one more", one.cups(0, 5, 6), 0);
        due("he who never tires", taster("1 0 1 0").cups(0, 60, 99), 60);
    }

    private static void cupsAreCut() {
        sentence(7, "all together) by D (cut)");
        ThirstScales x = taster("1 3 4 0");
        x.heat(2);
        due("7 by 4", x.cups(0, 2, 0), 1);
        due("8 by 4", x.cups(0, 3, 0), 2);
        due("11 by 4", x.cups(0, 6, 0), 2);
        due("12 by 4", x.cups(0, 7, 0), 3);
        due("8 by 9", taster("1 0 9 0").cups(0, 8, 0), 0);
        due("9 by 9", taster("1 0 9 0").cups(0, 9, 0), 1);
        due("by 1", taster("9 9 1 0").cups(0, 60, 0), 549);
    }

    private static void cupsByHeat() {
        sentence(7, "this HEAT");
        ThirstScales x = taster("9 9 1 0");
        due("no heat", x.cups(0, 60, 0), 549);
        x.heat(9);
        due("the greatest cups of all", x.cups(0, 60, 0), 558);
        due("B and heat alone", x.cups(0, 0, 99), 18);
        due("no cups at all", taster("1 0 9 0").cups(0, 0, 0), 0);
    }

    private static void weighsBounds() {
        sentence(8, "BAD");
        for (int t : OUTSIDE_TASTERS) {
            bad("weighs(" + t + ", 0)", x -> x.weighs(t, 0));
        }
        for (int l : OUTSIDE_LOADS) {
            bad("weighs(0, " + l + ")", x -> x.weighs(0, l));
        }
        due("the last ones", Worlds.given().weighs(2, 2), 11);
        due("no tasters", Worlds.read("load 1;").weighs(0, 0), -1);
        due("no loads", Worlds.read("taster 1 0 1 0;").weighs(0, 0), -1);
    }

    private static void weighsALick() {
        sentence(8, "he has one LICK more");
        ThirstScales x = Worlds.given();
        int[] cups = {7, 7, 7, 6};
        for (int i = 0; i < 4; i++) {
            due("with " + i + " licks", x.weighs(1, 0), cups[i]);
            due("taster(1, 4)", x.taster(1, 4), i + 1);
        }
        due("of no cups, too", x.weighs(0, 2), 0);
        due("taster(0, 4)", x.taster(0, 4), 1);
        due("taster(2, 4)", x.taster(2, 4), 0);
        x.night();
        due("rested", x.weighs(1, 0), 7);
    }

    private static void weighsIsKnown() {
        sentence(8, "It is known (12 at most): the TASTER, LICKS ahead, HEAT, LOAD, CUPS");
        ThirstScales x = Worlds.given();
        x.weighs(1, 1);
        x.heat(9);
        x.weighs(1, 0);
        int[][] rows = {{1, 0, 2, 1, 20, 0}, {1, 1, 9, 0, 8, 0}};
        for (int i = 0; i < 2; i++) {
            for (int what = 0; what <= 5; what++) {
                due("known(" + i + ", " + what + ")", x.known(i, what), rows[i][what]);
            }
        }
    }

    private static void weighsTwelve() {
        sentence(8, "It is known (12 at most)");
        ThirstScales x = Worlds.given();
        for (int i = 1; i <= 12; i++) {
            due("weighing " + i, x.weighs(0, 0), 3);
            due("count(3)", x.count(3), i);
        }
        due("weighs(0, 0)", x.weighs(0, 0), -3);
        due("count(3)", x.count(3), 12);
        due("no lick by it", x.taster(0, 4), 12);
        due("known(12, 0)", x.known(12, 0), -1);
        for (int t = 0; t <= 2; t++) {
            int taster = t;
            same("weighs(" + t + ", 1)", -3, Worlds::full, y -> y.weighs(taster, 1));
        }
        sentence(8, "the first of these: BAD [..], STATE (as told), FULL");
        same("weighs(3, 0)", -1, Worlds::full, y -> y.weighs(3, 0));
        same("weighs(0, 3)", -1, Worlds::full, y -> y.weighs(0, 3));
    }

    private static void manyLicks() {
        sentence(8, "LICKS of a TASTER: how often he tasted since the last NIGHT");
        ThirstScales x = Worlds.jugged(Worlds.given(), 2, 0, 120);
        due("with 120 licks", x.weighs(2, 1), 191);
        due("known(0, 1)", x.known(0, 1), 120);
        due("of those that can be", x.canBe(1, 0), 1);
        Worlds.jugged(x, 2, 0, 58);
        due("with 179 licks: 3 and 11", x.weighs(2, 1), 14);
        due("with 180 licks: 0 and 11", x.weighs(2, 1), 11);
        due("with 181 licks", x.weighs(2, 1), 11);
        due("night()", x.night(), 182 + 178);
        x = Worlds.jugged(Worlds.given(), 2, 0, 490);
        due("with 490 licks", x.weighs(2, 1), 11);
        due("taster(2, 4)", x.taster(2, 4), 491);
        due("mark(1, 2)", x.mark(1, 2), 500);
        due("mark(3, 2)", x.mark(3, 2), 1000);
        due("night()", x.night(), 981);
    }

    private static void saysBounds() {
        sentence(9, "says some cups (0 .. 99)");
        due("says(0, 0, 0)", Worlds.given().says(0, 0, 0), 1);
        due("says(2, 2, 99)", Worlds.given().says(2, 2, 99), 1);
        for (int cups : new int[] {-1, 100, 101, 999, FAR, LOW}) {
            bad("says(0, 0, " + cups + ")", x -> x.says(0, 0, cups));
        }
        for (int t : OUTSIDE_TASTERS) {
            bad("says(" + t + ", 0, 5)", x -> x.says(t, 0, 5));
        }
        for (int l : OUTSIDE_LOADS) {
            bad("says(0, " + l + ", 5)", x -> x.says(0, l, 5));
        }
    }

    private static void saysNoLick() {
        sentence(9, "SAID (it is known likewise) [..] no LICK");
        ThirstScales x = Worlds.given();
        x.weighs(1, 0);
        due("says(1, 2, 99)", x.says(1, 2, 99), 2);
        due("says(1, 2, 0)", x.says(1, 2, 0), 3);
        due("taster(1, 4)", x.taster(1, 4), 1);
        int[][] rows = {{1, 1, 2, 2, 99, 1}, {1, 1, 2, 2, 0, 1}};
        for (int i = 0; i < 2; i++) {
            for (int what = 0; what <= 5; what++) {
                due("known(" + (i + 1) + ", " + what + ")", x.known(i + 1, what), rows[i][what]);
            }
        }
        due("he who never tasted", x.says(0, 0, 3), 4);
        due("known(3, 1)", x.known(3, 1), 0);
    }

    private static void saysTwelve() {
        sentence(9, "(it is known likewise) [..] (12 at most)");
        ThirstScales x = Worlds.given();
        for (int i = 1; i <= 12; i++) {
            due("saying " + i, x.says(2, 1, 50), i);
        }
        due("says(2, 1, 50)", x.says(2, 1, 50), -3);
        due("weighs(2, 1)", x.weighs(2, 1), -3);
        due("taster(2, 4)", x.taster(2, 4), 0);
        due("count(3)", x.count(3), 12);
        same("says(0, 0, 0)", -3, Worlds::full, y -> y.says(0, 0, 0));
        same("says(2, 2, 99)", -3, Worlds::full, y -> y.says(2, 2, 99));
        sentence(9, "the first of these: BAD [..], STATE (as told), FULL");
        same("says(0, 0, 100)", -1, Worlds::full, y -> y.says(0, 0, 100));
        same("says(0, 0, -1)", -1, Worlds::full, y -> y.says(0, 0, -1));
        same("says(3, 0, 0)", -1, Worlds::full, y -> y.says(3, 0, 0));
        same("says(0, 3, 0)", -1, Worlds::full, y -> y.says(0, 3, 0));
    }

    private static void jugBounds() {
        sentence(10, "ONE JUG (c 0 .. 999; [..] BAD (one and the same, too)");
        for (int t : OUTSIDE_TASTERS) {
            bad("jug(" + t + ", 0, 0, 5, 0)", x -> x.jug(t, 0, 0, 5, 0));
            bad("jug(0, " + t + ", 0, 5, 0)", x -> x.jug(0, t, 0, 5, 0));
            bad("jug(" + t + ", " + t + ", 0, 5, 0)", x -> x.jug(t, t, 0, 5, 0));
        }
        for (int t = 0; t <= 2; t++) {
            int one = t;
            bad("jug(" + t + ", " + t + ", 0, 5, 0)", x -> x.jug(one, one, 0, 5, 0));
            bad("jug(" + t + ", " + t + ", 0, 0, 1)", x -> x.jug(one, one, 0, 0, 1));
        }
        for (int l : OUTSIDE_LOADS) {
            bad("jug(0, 1, " + l + ", 5, 0)", x -> x.jug(0, 1, l, 5, 0));
        }
        for (int c : new int[] {-1, 1000, 1001, FAR, LOW}) {
            bad("jug(0, 1, 0, " + c + ", 0)", x -> x.jug(0, 1, 0, c, 0));
        }
        for (int what : new int[] {-1, 2, 3, FAR, LOW}) {
            bad("jug(0, 1, 0, 5, " + what + ")", x -> x.jug(0, 1, 0, 5, what));
        }
        due("the last ones", Worlds.given().jug(2, 1, 2, 999, 0), 11);
        due("the least jug", Worlds.given().jug(1, 2, 0, 0, 0), 0);
    }

    private static void jugRunsOut() {
        sentence(10, "each drinks CUPS, as long as there are any");
        int[][] drunk = {{0, 0, 0}, {1, 1, 0}, {2, 2, 0}, {3, 3, 0}, {4, 4, 1}, {9, 9, 6}, {10, 10, 7}, {11, 10, 7},
            {999, 10, 7}};
        for (int[] row : drunk) {
            due("both of " + row[0], Worlds.given().jug(0, 1, 0, row[0], 0), row[1]);
            due("the second of " + row[0], Worlds.given().jug(0, 1, 0, row[0], 1), row[2]);
        }
        int[][] turned = {{6, 6, 0}, {7, 7, 0}, {8, 8, 1}, {9, 9, 2}, {10, 10, 3}, {11, 10, 3}};
        for (int[] row : turned) {
            due("both, turned, of " + row[0], Worlds.given().jug(1, 0, 0, row[0], 0), row[1]);
            due("the second, turned, of " + row[0], Worlds.given().jug(1, 0, 0, row[0], 1), row[2]);
        }
        due("a first one who drinks none", Worlds.given().jug(0, 2, 2, 5, 1), 5);
        due("a second one who drinks none", Worlds.given().jug(2, 0, 2, 999, 1), 0);
        String thirsty = "load 60;taster 9 9 1 0;taster 9 9 1 0;heat 9;";
        due("558, and what is left of 999", Worlds.read(thirsty).jug(0, 1, 0, 999, 1), 441);
        due("all of 999", Worlds.read(thirsty).jug(0, 1, 0, 999, 0), 999);
        due("558 and none", Worlds.read(thirsty).jug(0, 1, 0, 558, 1), 0);
        due("558 and one", Worlds.read(thirsty).jug(0, 1, 0, 559, 1), 1);
    }

    private static void jugLicks() {
        sentence(10, "both have a LICK more, of 0 cups, too, whatever what is");
        for (int what = 0; what <= 1; what++) {
            for (int c : new int[] {0, 1, 3, 999}) {
                ThirstScales x = Worlds.given();
                x.jug(0, 1, 0, c, what);
                due("taster(0, 4) of " + c, x.taster(0, 4), 1);
                due("taster(1, 4) of " + c, x.taster(1, 4), 1);
                due("taster(2, 4) of " + c, x.taster(2, 4), 0);
                due("night() of " + c, x.night(), 2);
            }
        }
        sentence(10, "(both with their LICKS;");
        ThirstScales x = Worlds.jugged(Worlds.given(), 1, 2, 3);
        due("both tired: 6 of 191 less 9", x.jug(1, 2, 0, 999, 0), 6 + 182);
        due("the second: 191 less 12", x.jug(1, 2, 0, 999, 1), 179);
        x.heat(9);
        due("by this heat: 7 of 66", x.jug(2, 1, 0, 999, 1), 66 / 9);
    }

    private static void jugIsNotKnown() {
        sentence(10, "it is not known");
        ThirstScales x = Worlds.given();
        x.jug(0, 1, 0, 999, 0);
        due("count(3)", x.count(3), 0);
        due("undo()", x.undo(), -2);
        due("canBe(0, 0)", x.canBe(0, 0), 61);
        due("when twelve are known, too", Worlds.full().jug(0, 1, 0, 2, 0), 2);
        ThirstScales full = Worlds.full();
        full.jug(0, 1, 0, 2, 0);
        due("count(3)", full.count(3), 12);
        due("taster(1, 4)", full.taster(1, 4), 7);
    }

    private static void nights() {
        sentence(11, "how many LICKS of all TASTERS there were");
        due("nobody", new ThirstScales().night(), 0);
        due("nobody tasted", Worlds.most().night(), 0);
        ThirstScales x = Worlds.most();
        for (int t = 0; t <= 4; t++) {
            Worlds.jugged(x, t, t + 1, 1 << t);
        }
        due("of all six", x.night(), 62);
        sentence(11, "A NIGHT: no LICKS");
        for (int t = 0; t <= 5; t++) {
            due("taster(" + t + ", 4)", x.taster(t, 4), 0);
        }
        due("night() again", x.night(), 0);
        ThirstScales busy = Worlds.busy();
        due("night()", busy.night(), 5);
        due("known stays", busy.count(3), 4);
        due("LICKS that are known stay", busy.known(2, 1), 1);
        due("heat stays", busy.count(2), 2);
    }

    private static void heats() {
        sentence(12, "HEAT becomes h: what it was. BAD");
        ThirstScales x = new ThirstScales();
        int was = 0;
        for (int h : new int[] {9, 0, 1, 8, 8, 9}) {
            due("heat(" + h + ")", x.heat(h), was);
            due("count(2)", x.count(2), h);
            was = h;
        }
        due("what the text told", Worlds.given().heat(0), 2);
        for (int h : new int[] {-1, 10, 11, 99, FAR, LOW}) {
            bad("heat(" + h + ")", y -> y.heat(h));
        }
    }

    private static void undoNothing() {
        sentence(13, "STATE: nothing is");
        same("undo()", -2, ThirstScales::new, x -> x.undo());
        same("undo()", -2, Worlds::most, x -> x.undo());
        same("undo() behind a jug", -2, () -> Worlds.jugged(Worlds.given(), 0, 1, 2), x -> x.undo());
        ThirstScales x = Worlds.given();
        x.weighs(0, 0);
        due("undo()", x.undo(), 0);
        due("undo() again", x.undo(), -2);
        due("taster(0, 4)", x.taster(0, 4), 0);
    }

    private static void undoLicks() {
        sentence(13, "if it was WEIGHED, that TASTER has one LICK less (0 at least)");
        ThirstScales x = Worlds.jugged(Worlds.given(), 1, 2, 3);
        x.weighs(1, 0);
        x.says(1, 0, 5);
        due("a saying", x.undo(), 1);
        due("no lick less", x.taster(1, 4), 4);
        due("a weighing", x.undo(), 0);
        due("a lick less", x.taster(1, 4), 3);
        due("another one's stay", x.taster(2, 4), 3);
        x.weighs(0, 0);
        x.weighs(0, 0);
        x.weighs(0, 1);
        x.night();
        Worlds.jugged(x, 0, 1, 1);
        x.undo();
        due("one less", x.taster(0, 4), 0);
        x.undo();
        due("0 at least", x.taster(0, 4), 0);
        x.undo();
        due("0 at least, again", x.taster(0, 4), 0);
        due("another one's stay", x.taster(1, 4), 1);
    }

    private static void undoTheLatest() {
        sentence(13, "UNDONE: the latest that is known [..]: it is known no more");
        ThirstScales x = Worlds.given();
        x.weighs(0, 0);
        x.weighs(1, 1);
        x.says(2, 2, 9);
        x.heat(7);
        due("undo()", x.undo(), 2);
        due("known(2, 0)", x.known(2, 0), -1);
        due("known(1, 0)", x.known(1, 0), 1);
        due("undo()", x.undo(), 1);
        due("known(0, 0)", x.known(0, 0), 0);
        due("heat stays", x.count(2), 7);
        due("canBe(1, 0)", x.canBe(1, 0), 61);
        due("canBe(0, 0)", x.canBe(0, 0), 7);
    }

    private static void undoMakesRoom() {
        sentence(13, "how much is known yet");
        ThirstScales x = Worlds.full();
        for (int left = 11; left >= 0; left--) {
            due("undo()", x.undo(), left);
        }
        due("undo()", x.undo(), -2);
        due("taster(1, 4)", x.taster(1, 4), 0);
        x = Worlds.full();
        x.undo();
        due("room for one", x.weighs(2, 2), 11);
        due("and no more", x.weighs(2, 2), -3);
        due("it is the twelfth", x.known(11, 0), 2);
        due("with its own cups", x.known(11, 4), 11);
        due("and not said", x.known(11, 5), 0);
    }

    private static void knownBounds() {
        sentence(14, "Of the i-th that is known: [..] 5 whether it was SAID. BAD");
        for (int i : new int[] {-1, 4, 5, 11, 12, FAR, LOW, 1 << 30, 715827883}) {
            same("known(" + i + ", 0)", -1, Worlds::busy, x -> x.known(i, 0));
        }
        for (int what : new int[] {-1, 6, 7, FAR, LOW}) {
            bad("known(0, " + what + ")", x -> x.known(0, what));
        }
        due("the first of none", Worlds.most().known(0, 0), -1);
        due("the twelfth", Worlds.full().known(11, 3), 1);
        due("a thirteenth", Worlds.full().known(12, 0), -1);
    }

    private static void knownAsItWas() {
        sentence(14, "0 TASTER, 1 LICKS, 2 HEAT, 3 LOAD, 4 CUPS, 5 whether it was SAID");
        ThirstScales x = Worlds.full();
        for (int i = 0; i < 12; i++) {
            int[] weighed = {1, i / 2, 2, 0, i < 6 ? 7 : 6, 0};
            int[] said = {0, 0, 2, 1, 3, 1};
            for (int what = 0; what <= 5; what++) {
                due("known(" + i + ", " + what + ")", x.known(i, what), (i % 2 == 0 ? weighed : said)[what]);
            }
        }
        ThirstScales most = Worlds.read("load 60;".repeat(5) + "taster 9 9 1 0;".repeat(6) + "heat 9;");
        most.weighs(5, 4);
        int[] greatest = {5, 0, 9, 4, 558, 0};
        for (int what = 0; what <= 5; what++) {
            due("known(0, " + what + ")", most.known(0, what), greatest[what]);
        }
    }
}
