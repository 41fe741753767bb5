/** What loads can be (promises 15 to 18): a test for each sentence that names an edge. */
public final class LoadEdgesTest extends Asking {
    private static final int[] OUTSIDE_LOADS = {-1, 3, 4, 5, 256, FAR, LOW};

    public static void main(String[] args) {
        canBeBounds();
        canBeAll();
        canBeOne();
        canBeAtTheEnds();
        canBeTired();
        canBeIsNotSaid();
        canBeAsItWas();
        canBeUndone();
        nextBounds();
        nextOfSeveral();
        nextByLicksAndHeat();
        nextOfThoseLeft();
        nextAtWorst();
        nextOfNobody();
        nextWhenFull();
        enoughBounds();
        enoughAlready();
        enoughOfThree();
        enoughByLicks();
        enoughChosen();
        enoughOfNobody();
        enoughWhenFull();
        heavierBounds();
        heavierByOne();
        heavierOfAll();
        CHECKS.end();
    }

    private static void canBe(String when, ThirstScales x, int l, int many, int least, int greatest) {
        due(when + ": canBe(" + l + ", 0)", x.canBe(l, 0), many);
        due(when + ": canBe(" + l + ", 1)", x.canBe(l, 1), least);
        due(when + ": canBe(" + l + ", 2)", x.canBe(l, 2), greatest);
    }

    private static void next(String when, ThirstScales x, int l, int taster, int left) {
        due(when + ": next(" + l + ", 0)", x.next(l, 0), taster);
        due(when + ": next(" + l + ", 1)", x.next(l, 1), left);
    }

    private static ThirstScales weighed(String text, int... tastersAndLoads) {
        ThirstScales x = Worlds.read(text);
        for (int i = 0; i + 1 < tastersAndLoads.length; i += 2) {
            x.weighs(tastersAndLoads[i], tastersAndLoads[i + 1]);
        }
        return x;
    }

    private static void canBeBounds() {
        sentence(15, "how many (what = 0), the least (1), the greatest (2). BAD");
        for (int l : OUTSIDE_LOADS) {
            bad("canBe(" + l + ", 0)", x -> x.canBe(l, 0));
        }
        for (int what : new int[] {-1, 3, 4, FAR, LOW}) {
            bad("canBe(0, " + what + ")", x -> x.canBe(0, what));
        }
        sentence(15, "(Nothing is changed.)");
        for (int what = 0; what <= 2; what++) {
            int asked = what;
            same("canBe(2, " + what + ")", new int[] {61, 0, 60}[what], Worlds::busy, x -> x.canBe(2, asked));
        }
    }

    private static void canBeAll() {
        sentence(15, "WEIGHTS 0 .. 60 by which all that is known of it as WEIGHED would be as it is");
        for (int l = 0; l <= 4; l++) {
            canBe("nothing is known", Worlds.most(), l, 61, 0, 60);
        }
        canBe("nobody", Worlds.read("load 5;"), 0, 61, 0, 60);
        canBe("another one's", weighed(Worlds.TEXT, 2, 0), 1, 61, 0, 60);
        canBe("of no cups", weighed("load 60;taster 1 0 9 3;taster 1 0 1 0;"), 0, 61, 0, 60);
    }

    private static void canBeOne() {
        sentence(15, "how many; the least, the greatest");
        for (int w = 0; w <= 60; w++) {
            canBe("weighed by itself", weighed("load " + w + ";taster 1 0 1 0;", 0, 0), 0, 1, w, w);
        }
        canBe("by two", weighed("load 20;taster 1 2 7 0;taster 1 2 8 0;heat 2;", 0, 0, 1, 0), 0, 4, 20, 23);
        canBe("by three", weighed(Worlds.TEXT, 0, 0, 1, 0), 0, 3, 19, 21);
    }

    private static void canBeAtTheEnds() {
        sentence(15, "WEIGHTS 0 .. 60");
        canBe("0 of 9", weighed("load 0;taster 1 0 9 0;", 0, 0), 0, 9, 0, 8);
        canBe("8 of 9", weighed("load 8;taster 1 0 9 0;", 0, 0), 0, 9, 0, 8);
        canBe("9 of 9", weighed("load 9;taster 1 0 9 0;", 0, 0), 0, 9, 9, 17);
        canBe("60 of 7", weighed("load 60;taster 1 0 7 0;", 0, 0), 0, 5, 56, 60);
        canBe("56 of 7", weighed("load 56;taster 1 0 7 0;", 0, 0), 0, 5, 56, 60);
        canBe("55 of 7", weighed("load 55;taster 1 0 7 0;", 0, 0), 0, 7, 49, 55);
        canBe("60 alone", weighed("load 60;taster 1 0 6 0;", 0, 0), 0, 1, 60, 60);
        canBe("0 alone", weighed("load 0;taster 1 8 9 0;", 0, 0), 0, 1, 0, 0);
    }

    private static void canBeTired() {
        sentence(15, "(A times WEIGHT) less (T times LICKS), 0 at least");
        String text = "load 0;load 60;taster 1 0 9 3;taster 1 0 1 0;";
        ThirstScales x = Worlds.jugged(Worlds.read(text), 0, 1, 2);
        x.weighs(0, 0);
        canBe("two licks: 6 less", x, 0, 15, 0, 14);
        x = Worlds.jugged(Worlds.read(text), 0, 1, 20);
        x.weighs(0, 1);
        canBe("twenty licks: none is above 0", x, 1, 61, 0, 60);
        x = Worlds.jugged(Worlds.read(text), 0, 1, 17);
        x.weighs(0, 1);
        canBe("17 licks: 9 are left of 60 alone", x, 1, 1, 60, 60);
    }

    private static void canBeIsNotSaid() {
        sentence(15, "(what is known as SAID does not matter)");
        ThirstScales x = Worlds.given();
        x.says(2, 0, 99);
        x.says(1, 0, 7);
        canBe("said alone", x, 0, 61, 0, 60);
        x.weighs(0, 0);
        x.says(2, 0, 0);
        canBe("weighed between", x, 0, 7, 17, 23);
        ThirstScales said = Worlds.given();
        for (int i = 0; i < 12; i++) {
            said.says(2, 1, i);
        }
        canBe("twelve sayings", said, 1, 61, 0, 60);
    }

    private static void canBeAsItWas() {
        sentence(15, "all that is known of it as WEIGHED would be as it is");
        ThirstScales x = weighed(Worlds.TEXT, 1, 1, 1, 1, 1, 1, 1, 0);
        canBe("with three licks", x, 0, 3, 18, 20);
        x.heat(9);
        x.night();
        canBe("heat and licks of then", x, 0, 3, 18, 20);
        x.weighs(0, 0);
        canBe("and of another day", x, 0, 3, 18, 20);
        x.heat(0);
        x.weighs(0, 0);
        canBe("and by another heat", x, 0, 2, 19, 20);
        ThirstScales full = Worlds.full();
        canBe("all of twelve", full, 0, 1, 20, 20);
    }

    private static void canBeUndone() {
        sentence(15, "it is known no more");
        ThirstScales x = weighed(Worlds.TEXT, 0, 0, 1, 0);
        x.undo();
        canBe("one undone", x, 0, 7, 17, 23);
        x.undo();
        canBe("all undone", x, 0, 61, 0, 60);
    }

    private static void nextBounds() {
        sentence(16, "the TASTER (what = 0), how many are left at worst (1); NONE. BAD");
        for (int l : OUTSIDE_LOADS) {
            bad("next(" + l + ", 0)", x -> x.next(l, 0));
        }
        for (int what : new int[] {-1, 2, 3, FAR, LOW}) {
            bad("next(0, " + what + ")", x -> x.next(0, what));
        }
        sentence(16, "(Nothing is changed.)");
        same("next(1, 0)", 2, Worlds::busy, x -> x.next(1, 0));
        same("next(1, 1)", 1, Worlds::busy, x -> x.next(1, 1));
    }

    private static void nextOfSeveral() {
        sentence(16, "of several the first");
        next("two of three", Worlds.read("load 0;taster 1 0 9 0;taster 1 0 4 3;taster 1 0 4 0;"), 0, 1, 4);
        next("all six", Worlds.read("load 0;" + "taster 1 0 4 0;".repeat(6)), 0, 0, 4);
        next("the last", Worlds.read("load 0;" + "taster 1 0 4 0;".repeat(5) + "taster 1 0 3 0;"), 0, 5, 3);
        ThirstScales x = weighed("load 7;taster 1 0 9 0;taster 1 0 1 0;", 1, 0);
        next("one is left anyway", x, 0, 0, 1);
    }

    private static void nextByLicksAndHeat() {
        sentence(16, "(with his LICKS, this HEAT)");
        String text = "load 0;taster 1 0 9 0;taster 1 0 4 3;taster 1 0 4 0;";
        next("one lick: 0 to 6 are alike", Worlds.jugged(Worlds.read(text), 0, 1, 1), 0, 2, 4);
        text = "load 0;taster 1 0 9 0;taster 1 0 4 3;";
        next("two licks: 0 to 9 are alike", Worlds.jugged(Worlds.read(text), 0, 1, 2), 0, 0, 9);
        ThirstScales rested = Worlds.jugged(Worlds.read(text), 0, 1, 2);
        rested.night();
        next("rested", rested, 0, 1, 4);
        text = "load 0;taster 1 0 1 3;taster 1 0 9 0;";
        next("so tired that all are alike", Worlds.jugged(Worlds.read(text), 0, 1, 20), 0, 1, 9);
        text = "load 0;taster 1 0 9 0;taster 1 1 8 0;";
        next("0 to 8, without heat", weighed(text, 0, 0), 0, 1, 7);
        ThirstScales hot = weighed(text, 0, 0);
        hot.heat(4);
        next("0 to 8, by 4", hot, 0, 0, 5);
    }

    private static void nextOfThoseLeft() {
        sentence(16, "the most WEIGHTS that are left of those that CAN BE");
        String text = "load 20;taster 1 2 7 0;taster 1 0 6 0;taster 1 1 8 0;heat 2;";
        next("all", Worlds.read(text), 0, 1, 6);
        next("17 to 23", weighed(text, 0, 0), 0, 2, 4);
        next("17 to 20", weighed(text, 0, 0, 2, 0), 0, 0, 4);
    }

    private static void nextAtWorst() {
        sentence(16, "the most WEIGHTS that are left [..] at worst are the fewest");
        next("the first of them fewer", Worlds.read("load 0;taster 1 8 9 0;"), 0, 0, 9);
        next("the last of them fewer", Worlds.read("load 0;taster 1 0 9 0;"), 0, 0, 9);
        next("the first of them most", Worlds.jugged(Worlds.read("load 0;taster 9 0 1 3;taster 1 0 9 0;"), 0, 1, 9),
            0, 0, 4);
        next("the last of them most", weighed("load 15;taster 1 0 9 0;taster 1 2 7 0;", 0, 0), 0, 1, 6);
        next("all alike", weighed("load 0;taster 1 0 5 0;taster 1 0 9 0;taster 1 0 6 0;", 0, 0), 0, 0, 5);
        next("all apart", Worlds.read("load 0;taster 1 0 9 0;taster 9 9 9 3;"), 0, 1, 1);
    }

    private static void nextOfNobody() {
        sentence(16, "NONE: no TASTERS");
        same("next(0, 0)", -9, () -> Worlds.read("load 5;"), x -> x.next(0, 0));
        same("next(0, 1)", -9, () -> Worlds.read("load 5;"), x -> x.next(0, 1));
        sentence(16, "BAD");
        due("BAD ahead of NONE", Worlds.read("load 5;").next(0, 2), -1);
        due("BAD ahead of NONE", Worlds.read("load 5;").next(1, 0), -1);
        due("BAD ahead of NONE", new ThirstScales().next(0, 0), -1);
    }

    private static void nextWhenFull() {
        sentence(16, "(Nothing is changed.)");
        same("next(2, 0), twelve known", 2, Worlds::full, x -> x.next(2, 0));
        same("next(2, 1), twelve known", 1, Worlds::full, x -> x.next(2, 1));
        same("next(0, 0), twelve known", 0, Worlds::full, x -> x.next(0, 0));
    }

    private static void enoughBounds() {
        sentence(17, "m (1 .. 61) [..] BAD");
        for (int m : new int[] {-1, 0, 62, 63, 256, FAR, LOW}) {
            bad("enough(0, " + m + ")", x -> x.enough(0, m));
        }
        for (int l : OUTSIDE_LOADS) {
            bad("enough(" + l + ", 1)", x -> x.enough(l, 1));
        }
        sentence(17, "(Nothing is changed.)");
        same("enough(1, 1)", 1, Worlds::busy, x -> x.enough(1, 1));
        same("enough(1, 61)", 0, Worlds::busy, x -> x.enough(1, 61));
        String text = "load 20;taster 2 1 7 1;heat 2;";
        same("enough(0, 1) of three", 3, () -> weighed(text, 0, 0, 0, 0), x -> x.enough(0, 1));
        same("enough(0, 1) of none", -9, () -> Worlds.read(text), x -> x.enough(0, 1));
    }

    private static void enoughAlready() {
        sentence(17, "m WEIGHTS at most are left");
        String text = "load 20;taster 1 0 1 0;taster 1 0 9 0;";
        due("61 of 61", Worlds.read(text).enough(0, 61), 0);
        due("61 of 60", Worlds.read(text).enough(0, 60), 1);
        due("9 of 9", weighed(text, 1, 0).enough(0, 9), 0);
        due("9 of 8", weighed(text, 1, 0).enough(0, 8), 1);
        due("9 of 61", weighed(text, 1, 0).enough(0, 61), 0);
        due("1 of 1", weighed(text, 0, 0).enough(0, 1), 0);
        due("none more of nobody", Worlds.read("load 5;").enough(0, 61), 0);
    }

    private static void enoughOfThree() {
        sentence(17, "the fewest weighings (0 .. 3) [..]; NONE");
        String text = "load 20;taster 1 1 4 1;heat 5;";
        int[][] due = {{1, -9}, {2, 3}, {3, 2}, {4, 1}, {5, 1}, {60, 1}, {61, 0}};
        for (int[] row : due) {
            due("enough(0, " + row[0] + ")", Worlds.read(text).enough(0, row[0]), row[1]);
        }
        String four = "load 20;taster 2 1 7 1;heat 2;";
        due("four would do", Worlds.read(four).enough(0, 2), -9);
        due("20 to 22", weighed(four, 0, 0).enough(0, 1), -9);
        due("20 to 22", weighed(four, 0, 0).enough(0, 2), 2);
        due("20 to 22", weighed(four, 0, 0).enough(0, 3), 0);
        due("20 to 22, with two licks", weighed(four, 0, 0, 0, 0).enough(0, 1), 3);
        due("20 to 22, with two licks", weighed(four, 0, 0, 0, 0).enough(0, 2), 1);
        due("one more is never enough", Worlds.read("load 20;taster 1 0 9 0;").enough(0, 8), -9);
        due("one more is enough", Worlds.read("load 20;taster 1 0 9 0;").enough(0, 9), 1);
    }

    private static void enoughByLicks() {
        sentence(17, "(LICKS grow by them)");
        due("by growing licks alone", Worlds.read("load 20;taster 3 2 4 1;taster 2 1 6 0;").enough(0, 1), 2);
        due("rested ones would never do", Worlds.read("load 20;taster 3 2 4 0;taster 2 1 6 0;").enough(0, 1), -9);
        String text = "load 20;taster 1 0 4 1;taster 1 0 2 0;";
        due("by the second lick", weighed(text, 1, 0).enough(0, 1), 2);
        due("which is his next", Worlds.jugged(weighed(text, 1, 0), 0, 1, 1).enough(0, 1), 1);
        due("by the third lick", weighed("load 21;taster 1 0 4 1;taster 1 0 2 0;", 1, 0).enough(0, 1), 2);
        text = "load 0;taster 1 0 1 3;taster 1 0 9 3;";
        due("so tired that nothing helps", Worlds.jugged(Worlds.read(text), 0, 1, 20).enough(0, 60), -9);
        due("not another one's", Worlds.read("load 20;taster 1 2 3 3;taster 3 0 4 1;").enough(0, 1), 2);
        due("not another one's", Worlds.read("load 20;taster 2 2 8 1;taster 1 2 4 0;").enough(0, 2), 3);
        due("one more each time", Worlds.read("load 20;taster 1 1 7 1;taster 1 2 5 1;").enough(0, 3), 3);
        due("of the last of six", Worlds.read("load 20;" + "taster 1 0 9 0;".repeat(5) + "taster 1 1 4 1;heat 5;")
            .enough(0, 3), 2);
        sentence(17, "(with his LICKS, this HEAT)");
        ThirstScales hot = weighed("load 20;taster 1 0 2 0;taster 1 0 4 0;", 0, 0);
        due("20 or 21, without heat", hot.enough(0, 1), -9);
        hot.heat(3);
        due("20 or 21, by 3", hot.enough(0, 1), 1);
    }

    private static void enoughChosen() {
        sentence(17, "each chosen by what was drunk ahead");
        due("three if told ahead", Worlds.read("load 20;taster 3 1 7 2;taster 1 1 2 3;heat 8;").enough(0, 1), 2);
        sentence(17, "the fewest weighings");
        due("not by the nearest first", Worlds.read("load 20;taster 2 2 6 0;taster 3 1 8 1;").enough(0, 2), 3);
        sentence(17, "whatever is drunk");
        due("the true weight does not matter", Worlds.read("load 60;taster 1 0 9 0;").enough(0, 6), -9);
        due("nor at the other end", Worlds.read("load 0;taster 1 8 9 0;").enough(0, 6), -9);
    }

    private static void enoughOfNobody() {
        sentence(17, "NONE");
        for (int m : new int[] {1, 2, 30, 60}) {
            same("enough(0, " + m + ") of nobody", -9, () -> Worlds.read("load 5;"), x -> x.enough(0, m));
        }
        same("enough(0, 61) of nobody", 0, () -> Worlds.read("load 5;"), x -> x.enough(0, 61));
        sentence(17, "BAD");
        due("BAD ahead of NONE", Worlds.read("load 5;").enough(0, 0), -1);
        due("BAD ahead of NONE", Worlds.read("load 5;").enough(1, 1), -1);
    }

    private static void enoughWhenFull() {
        sentence(17, "(Nothing is changed.)");
        same("enough(2, 61), twelve known", 0, Worlds::full, x -> x.enough(2, 61));
        same("enough(2, 1), twelve known", 1, Worlds::full, x -> x.enough(2, 1));
        same("enough(0, 1), twelve known", 0, Worlds::full, x -> x.enough(0, 1));
    }

    private static void heavierBounds() {
        sentence(18, "BAD (one and the same, too)");
        for (int l : OUTSIDE_LOADS) {
            bad("heavier(" + l + ", 0)", x -> x.heavier(l, 0));
            bad("heavier(0, " + l + ")", x -> x.heavier(0, l));
            bad("heavier(" + l + ", " + l + ")", x -> x.heavier(l, l));
        }
        for (int l = 0; l <= 2; l++) {
            int one = l;
            bad("heavier(" + l + ", " + l + ")", x -> x.heavier(one, one));
        }
        sentence(18, "(Nothing is changed.)");
        same("heavier(1, 0)", 1, Worlds::busy, x -> x.heavier(1, 0));
        same("heavier(0, 1)", -2, Worlds::busy, x -> x.heavier(0, 1));
        same("heavier(0, 2)", 0, Worlds::busy, x -> x.heavier(0, 2));
    }

    private static void heavierByOne() {
        sentence(18, "all WEIGHTS that a LOAD CAN BE are above all that another one CAN BE: 1; all below: -2");
        // load 0 is weighed as 18 to 26, the other one by itself
        int[][] due = {{16, -2}, {17, -2}, {18, 0}, {19, 0}, {25, 0}, {26, 0}, {27, 1}, {28, 1}};
        for (int[] row : due) {
            ThirstScales x = weighed("load 20;load " + row[0] + ";taster 1 0 1 0;taster 1 0 9 0;", 1, 0, 0, 1);
            due("heavier(1, 0) of " + row[0], x.heavier(1, 0), row[1]);
            due("heavier(0, 1) of " + row[0], x.heavier(0, 1), row[1] == 0 ? 0 : row[1] == 1 ? -2 : 1);
        }
    }

    private static void heavierOfAll() {
        sentence(18, "else 0");
        ThirstScales x = Worlds.read("load 60;load 0;taster 1 0 1 0;taster 1 0 9 0;");
        due("nothing is known", x.heavier(0, 1), 0);
        x.weighs(0, 0);
        due("one is known", x.heavier(0, 1), 0);
        due("one is known", x.heavier(1, 0), 0);
        x.says(0, 1, 0);
        due("what is said does not matter", x.heavier(0, 1), 0);
        x.weighs(1, 1);
        due("both are known", x.heavier(0, 1), 1);
        x.undo();
        due("one no more", x.heavier(0, 1), 0);
        due("as heavy", weighed("load 20;load 20;taster 1 0 1 0;", 0, 0, 0, 1).heavier(0, 1), 0);
        due("as heavy, by spans", weighed("load 20;load 26;taster 1 0 9 0;", 0, 0, 0, 1).heavier(1, 0), 0);
        due("by spans that touch", weighed("load 26;load 27;taster 1 0 9 0;", 0, 0, 0, 1).heavier(1, 0), 1);
        due("by spans that touch", weighed("load 26;load 27;taster 1 0 9 0;", 0, 0, 0, 1).heavier(0, 1), -2);
        ThirstScales five = weighed("load 1;load 1;load 1;load 2;load 1;taster 1 0 1 0;", 0, 3, 0, 4);
        due("the last two", five.heavier(3, 4), 1);
    }
}
