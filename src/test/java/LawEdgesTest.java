/** Laws (promises 19 to 24): a test for each sentence that names an edge. */
public final class LawEdgesTest extends Asking {
    private static final int[] OUTSIDE_TASTERS = {-1, 3, 4, 256, FAR, LOW};

    public static void main(String[] args) {
        toldBounds();
        toldEight();
        toldChangesNothingElse();
        forgetting();
        learntBounds();
        learntOfNone();
        learntTheFirst();
        learntNoLaw();
        learntEndsOfLaws();
        mayBounds();
        mayOfAll();
        mayOfSome();
        mayOfNoLaw();
        bribedNobody();
        bribedBits();
        bribedOnceIsEnough();
        bribedAsTheyWere();
        bribedUndone();
        memoryBounds();
        memoryNear();
        memoryAtTheEnds();
        memoryOfNone();
        memoryNoLicksThisHeat();
        CHECKS.end();
    }

    private static ThirstScales told(int... numbers) {
        ThirstScales x = new ThirstScales();
        for (int i = 0; i + 3 < numbers.length; i += 4) {
            x.told(numbers[i], numbers[i + 1], numbers[i + 2], numbers[i + 3]);
        }
        return x;
    }

    private static void learnt(String when, ThirstScales x, int... due) {
        for (int what = 0; what <= 4; what++) {
            due(when + ": learnt(" + what + ")", x.learnt(what), due[what]);
        }
    }

    private static void may(String when, ThirstScales x, int weight, int licks, int heat, int least, int greatest) {
        String call = when + ": may(" + weight + ", " + licks + ", " + heat + ", ";
        due(call + "0)", x.may(weight, licks, heat, 0), least);
        due(call + "1)", x.may(weight, licks, heat, 1), greatest);
    }

    private static void toldBounds() {
        sentence(19, "(8 at most: a WEIGHT, LICKS 0 .. 9, HEAT 0 .. 9, CUPS 0 .. 999)");
        due("the least", told().told(0, 0, 0, 0), 1);
        due("the greatest", told().told(60, 9, 9, 999), 1);
        due("the greatest alone", told().told(60, 0, 0, 0), 1);
        due("the greatest alone", told().told(0, 9, 0, 0), 1);
        due("the greatest alone", told().told(0, 0, 9, 0), 1);
        due("the greatest alone", told().told(0, 0, 0, 999), 1);
        for (int weight : new int[] {-1, 61, 99, FAR, LOW}) {
            bad("told(" + weight + ", 0, 0, 0)", x -> x.told(weight, 0, 0, 0));
        }
        for (int number : new int[] {-1, 10, 99, FAR, LOW}) {
            bad("told(0, " + number + ", 0, 0)", x -> x.told(0, number, 0, 0));
            bad("told(0, 0, " + number + ", 0)", x -> x.told(0, 0, number, 0));
        }
        for (int cups : new int[] {-1, 1000, 1001, FAR, LOW}) {
            bad("told(0, 0, 0, " + cups + ")", x -> x.told(0, 0, 0, cups));
        }
    }

    private static void toldEight() {
        sentence(19, "(8 at most [..] A told tasting: how many. BAD; FULL");
        ThirstScales x = new ThirstScales();
        for (int i = 1; i <= 8; i++) {
            due("tasting " + i, x.told(10, 0, 0, 4), i);
            due("count(4)", x.count(4), i);
        }
        due("told(10, 0, 0, 4)", x.told(10, 0, 0, 4), -3);
        due("told(60, 9, 9, 999)", x.told(60, 9, 9, 999), -3);
        due("count(4)", x.count(4), 8);
        learnt("eight alike", x, 168, 1, 2, 3, 0);
        same("told(0, 0, 0, 0)", -3, Worlds::full, y -> y.told(0, 0, 0, 0));
        ThirstScales last = told(10, 0, 0, 4, 10, 0, 0, 4, 10, 0, 0, 4, 10, 0, 0, 4, 10, 0, 0, 4, 10, 0, 0, 4,
            10, 0, 0, 4, 60, 0, 0, 20);
        due("the eighth counts", last.learnt(0), 24);
        sentence(19, "the first of these: BAD [..], STATE (as told), FULL");
        same("told(61, 0, 0, 0)", -1, Worlds::full, y -> y.told(61, 0, 0, 0));
        same("told(0, 10, 0, 0)", -1, Worlds::full, y -> y.told(0, 10, 0, 0));
        same("told(0, 0, 10, 0)", -1, Worlds::full, y -> y.told(0, 0, 10, 0));
        same("told(0, 0, 0, 1000)", -1, Worlds::full, y -> y.told(0, 0, 0, 1000));
    }

    private static void toldChangesNothingElse() {
        sentence(19, "of one unknown TASTER");
        ThirstScales x = Worlds.most();
        x.told(60, 9, 9, 999);
        due("count(3)", x.count(3), 0);
        due("count(2)", x.count(2), 2);
        due("night()", x.night(), 0);
        due("canBe(0, 0)", x.canBe(0, 0), 61);
        due("bribed()", x.bribed(), 0);
        x.heat(9);
        x.weighs(2, 1);
        due("what is known is not told", x.count(4), 1);
    }

    private static void forgetting() {
        sentence(20, "No told tastings: how many there were");
        due("forget() of none", new ThirstScales().forget(), 0);
        ThirstScales x = Worlds.full();
        due("forget()", x.forget(), 8);
        due("forget() again", x.forget(), 0);
        due("count(4)", x.count(4), 0);
        learnt("none", x, 3240, 1, 0, 1, 0);
        due("what is known stays", x.count(3), 12);
        due("the text stays", x.count(5), 200);
        for (int i = 1; i <= 8; i++) {
            due("room again", x.told(60, 0, 9, 558), i);
        }
        due("and no more", x.told(60, 0, 9, 558), -3);
        learnt("those anew alone", x, 4, 9, 9, 1, 0);
        due("forget() one", told(1, 1, 1, 1).forget(), 1);
    }

    private static void learntBounds() {
        sentence(21, "how many LAWS (what = 0), the first: A, B, D, T (1 .. 4; NONE). BAD");
        for (int what : new int[] {-1, 5, 6, FAR, LOW}) {
            bad("learnt(" + what + ")", x -> x.learnt(what));
            due("BAD ahead of NONE", told(0, 0, 0, 999).learnt(what), -1);
        }
        int[] due = {168, 1, 2, 3, 0};
        for (int what = 0; what <= 4; what++) {
            int asked = what;
            same("learnt(" + what + ")", due[what], Worlds::busy, x -> x.learnt(asked));
        }
    }

    private static void learntOfNone() {
        sentence(21, "how many LAWS (A, B, D, T) are as told");
        learnt("nothing told", told(), 3240, 1, 0, 1, 0);
        learnt("nobody there", Worlds.read("load 1;"), 3240, 1, 0, 1, 0);
        learnt("told twice", told(10, 0, 0, 4, 10, 0, 0, 4), 168, 1, 2, 3, 0);
        learnt("in another order", told(60, 0, 0, 20, 10, 0, 0, 4), 24, 1, 2, 3, 0);
        learnt("in this order", told(10, 0, 0, 4, 60, 0, 0, 20), 24, 1, 2, 3, 0);
    }

    private static void learntTheFirst() {
        sentence(21, "the first by A, B, D, T");
        learnt("A ahead of B: not 9 0 3 1", told(32, 5, 0, 94), 12, 3, 3, 1, 1);
        learnt("B ahead of D: not 1 3 3 3", told(54, 6, 9, 16), 25, 1, 1, 4, 0);
        learnt("D ahead of T: not 1 0 6 1", told(45, 5, 9, 8), 28, 1, 0, 5, 2);
    }

    private static void learntNoLaw() {
        sentence(21, "(1 .. 4; NONE)");
        learnt("more than any law", told(60, 0, 9, 559), 0, -9, -9, -9, -9);
        learnt("more than any law", told(60, 9, 9, 999), 0, -9, -9, -9, -9);
        learnt("two that speak against one another", told(10, 0, 0, 4, 10, 0, 0, 5), 0, -9, -9, -9, -9);
        learnt("the last of eight speaks against all", told(10, 0, 0, 4, 10, 0, 0, 4, 10, 0, 0, 4, 10, 0, 0, 4,
            10, 0, 0, 4, 10, 0, 0, 4, 10, 0, 0, 4, 10, 0, 0, 3), 0, -9, -9, -9, -9);
        learnt("less than any law", told(60, 0, 0, 5), 0, -9, -9, -9, -9);
    }

    private static void learntEndsOfLaws() {
        sentence(21, "A (1 .. 9), B (0 .. 9), D (1 .. 9), T (0 .. 3)");
        learnt("the last law of all", told(60, 0, 9, 558, 60, 1, 9, 555), 1, 9, 9, 1, 3);
        learnt("the first law of all", told(60, 0, 9, 69, 0, 0, 0, 0, 60, 9, 0, 60), 1, 1, 0, 1, 0);
        learnt("the greatest D", told(60, 0, 0, 6, 53, 0, 0, 5, 54, 0, 0, 6, 60, 9, 0, 6, 60, 0, 3, 7), 1,
            1, 0, 9, 0);
        learnt("every T", told(60, 0, 9, 69, 0, 0, 0, 0), 28, 1, 0, 1, 0);
        learnt("T alone", told(60, 0, 9, 69, 0, 0, 0, 0, 60, 1, 0, 59), 1, 1, 0, 1, 1);
    }

    private static void mayBounds() {
        sentence(22, "the least (what = 0), the greatest (1); NONE. BAD (as told())");
        for (int weight : new int[] {-1, 61, 99, FAR, LOW}) {
            bad("may(" + weight + ", 0, 0, 0)", x -> x.may(weight, 0, 0, 0));
        }
        for (int number : new int[] {-1, 10, 99, FAR, LOW}) {
            bad("may(0, " + number + ", 0, 0)", x -> x.may(0, number, 0, 0));
            bad("may(0, 0, " + number + ", 0)", x -> x.may(0, 0, number, 0));
        }
        for (int what : new int[] {-1, 2, 3, FAR, LOW}) {
            bad("may(0, 0, 0, " + what + ")", x -> x.may(0, 0, 0, what));
        }
        same("may(10, 0, 0, 0)", 4, Worlds::busy, x -> x.may(10, 0, 0, 0));
        same("may(60, 9, 9, 1)", 28, Worlds::busy, x -> x.may(60, 9, 9, 1));
    }

    private static void mayOfAll() {
        sentence(22, "CUPS he may drink of a WEIGHT with LICKS and HEAT: the least, the greatest");
        may("nothing told", told(), 0, 0, 0, 0, 9);
        may("nothing told", told(), 0, 9, 9, 1, 18);
        may("nothing told", told(), 60, 0, 0, 6, 549);
        may("nothing told", told(), 60, 0, 9, 7, 558);
        may("nothing told", told(), 60, 9, 0, 3, 549);
        may("nothing told", told(), 9, 9, 0, 0, 90);
    }

    private static void mayOfSome() {
        sentence(22, "CUPS he may drink of a WEIGHT with LICKS and HEAT: the least, the greatest");
        may("as told", told(10, 0, 0, 4), 10, 0, 0, 4, 4);
        may("by two", told(10, 0, 0, 4, 60, 0, 0, 20), 30, 0, 0, 10, 10);
        may("by three", told(10, 0, 0, 4, 60, 0, 0, 20, 60, 9, 0, 17), 30, 5, 5, 9, 10);
        may("by one law, no cups", told(60, 0, 9, 69, 0, 0, 0, 0, 60, 1, 0, 59), 9, 9, 0, 0, 0);
        may("by every T, none below 0 or above 3", told(60, 0, 9, 69, 0, 0, 0, 0), 60, 9, 9, 42, 69);
        may("by the first law alone", told(60, 0, 9, 69, 0, 0, 0, 0, 60, 9, 0, 60), 60, 9, 9, 69, 69);
        may("by one law, all he can", told(60, 0, 9, 558, 60, 1, 9, 555), 60, 9, 9, 531, 531);
    }

    private static void mayOfNoLaw() {
        sentence(22, "NONE");
        may("no law", told(60, 0, 9, 559), 60, 0, 9, -9, -9);
        may("no law", told(10, 0, 0, 4, 10, 0, 0, 5), 0, 0, 0, -9, -9);
        sentence(22, "BAD (as told())");
        due("BAD ahead of NONE", told(60, 0, 9, 559).may(61, 0, 0, 1), -1);
        due("BAD ahead of NONE", told(60, 0, 9, 559).may(0, 0, 0, 2), -1);
    }

    private static void bribedNobody() {
        sentence(23, "something that is known as SAID is not CUPS by their LAWS of the true WEIGHT");
        due("nothing is known", new ThirstScales().bribed(), 0);
        ThirstScales x = Worlds.given();
        x.weighs(2, 1);
        x.weighs(1, 0);
        due("weighed alone", x.bribed(), 0);
        x.says(0, 0, 3);
        x.says(0, 1, 9);
        x.says(0, 2, 0);
        due("nothing but the truth", x.bribed(), 0);
        same("bribed()", 4, Worlds::busy, y -> y.bribed());
        same("bribed()", 1, Worlds::full, y -> y.bribed());
    }

    private static void bribedBits() {
        sentence(23, "TASTERS (bits)");
        for (int t = 0; t <= 5; t++) {
            ThirstScales x = Worlds.most();
            x.says(t, 1, 98);
            due("taster " + t, x.bribed(), 1 << t);
        }
        ThirstScales x = Worlds.most();
        for (int t = 5; t >= 0; t--) {
            x.says(t, 0, 98);
        }
        due("all six", x.bribed(), 63);
        for (int t = 0; t <= 5; t++) {
            x.says(t, 0, 98);
        }
        due("all six, twice", x.bribed(), 63);
    }

    private static void bribedOnceIsEnough() {
        sentence(23, "something that is known as SAID");
        ThirstScales x = Worlds.given();
        x.says(0, 0, 4);
        x.says(0, 0, 3);
        x.says(1, 0, 7);
        x.says(1, 0, 6);
        due("one word of two, the first or the last", x.bribed(), 3);
        due("one too few", only(2).bribed(), 1);
        due("the truth", only(3).bribed(), 0);
        due("one too many", only(4).bribed(), 1);
        sentence(23, "CUPS by their LAWS of the true WEIGHT");
        ThirstScales y = Worlds.given();
        y.says(2, 1, 99);
        due("whose truth is above 99", y.bribed(), 4);
        ThirstScales within = Worlds.given();
        within.weighs(0, 0);
        within.says(1, 0, 8);
        due("8 could be of a weight that can be", within.bribed(), 2);
    }

    private static ThirstScales only(int cups) {
        ThirstScales x = Worlds.given();
        x.says(0, 0, cups);
        return x;
    }

    private static void bribedAsTheyWere() {
        sentence(23, "(with LICKS, HEAT as they were)");
        ThirstScales x = Worlds.given();
        x.says(1, 0, 7);
        Worlds.jugged(x, 1, 0, 3);
        due("licks of now do not matter", x.bribed(), 0);
        x.says(1, 0, 6);
        due("licks of then do", x.bribed(), 0);
        x.says(1, 0, 7);
        due("and of now, if he says it now", x.bribed(), 2);
        x.undo();
        x.heat(9);
        x.says(0, 0, 4);
        due("heat of then", x.bribed(), 0);
        x.night();
        due("a night does not matter", x.bribed(), 0);
        x.says(0, 0, 3);
        due("what was true by another heat", x.bribed(), 1);
    }

    private static void bribedUndone() {
        sentence(23, "that is known");
        ThirstScales x = Worlds.given();
        x.says(2, 0, 9);
        x.says(0, 0, 9);
        x.undo();
        due("one undone", x.bribed(), 4);
        x.keep(0);
        x.undo();
        due("both undone", x.bribed(), 0);
        x.back(0);
        due("one back", x.bribed(), 4);
    }

    private static void memory(String when, ThirstScales x, int t, int cups, int y, int least, int greatest) {
        String call = when + ": memory(" + t + ", " + cups + ", " + y + ", ";
        due(call + "0)", x.memory(t, cups, y, 0), least);
        due(call + "1)", x.memory(t, cups, y, 1), greatest);
    }

    private static void memoryBounds() {
        sentence(24, "y (0 .. 20) [..] MEMORY (cups 0 .. 999) [..] BAD");
        for (int t : OUTSIDE_TASTERS) {
            bad("memory(" + t + ", 5, 0, 0)", x -> x.memory(t, 5, 0, 0));
        }
        for (int cups : new int[] {-1, 1000, 1001, FAR, LOW}) {
            bad("memory(0, " + cups + ", 0, 0)", x -> x.memory(0, cups, 0, 0));
        }
        for (int y : new int[] {-1, 21, 22, FAR, LOW}) {
            bad("memory(0, 5, " + y + ", 0)", x -> x.memory(0, 5, y, 0));
        }
        for (int what : new int[] {-1, 2, 3, FAR, LOW}) {
            bad("memory(0, 5, 0, " + what + ")", x -> x.memory(0, 5, 0, what));
        }
        same("memory(0, 0, 0, 0)", 0, Worlds::busy, x -> x.memory(0, 0, 0, 0));
        same("memory(0, 0, 20, 1)", 60, Worlds::busy, x -> x.memory(0, 0, 20, 1));
        same("memory(0, 999, 20, 1)", -9, Worlds::full, x -> x.memory(0, 999, 20, 1));
    }

    private static void memoryNear() {
        sentence(24, "y more or less by now: WEIGHTS by which CUPS may be so near");
        ThirstScales x = Worlds.read("taster 1 0 1 0;taster 1 0 9 0;taster 9 0 1 0;");
        memory("just so", x, 0, 30, 0, 30, 30);
        memory("one year", x, 0, 30, 1, 29, 31);
        memory("twenty years", x, 0, 30, 20, 10, 50);
        memory("just so", x, 1, 5, 0, 45, 53);
        memory("one year", x, 1, 5, 1, 36, 60);
        memory("just so", x, 2, 90, 0, 10, 10);
        memory("none so near", x, 2, 94, 3, -9, -9);
        memory("one so near", x, 2, 94, 4, 10, 10);
        memory("two so near", x, 2, 94, 5, 10, 11);
        memory("two so near", x, 2, 94, 12, 10, 11);
        memory("three so near", x, 2, 94, 13, 9, 11);
    }

    private static void memoryAtTheEnds() {
        sentence(24, "WEIGHTS by which CUPS may be so near: the least, the greatest");
        ThirstScales x = Worlds.read("taster 1 0 1 0;taster 1 0 9 0;");
        memory("no cups", x, 0, 0, 0, 0, 0);
        memory("no cups", x, 0, 0, 20, 0, 20);
        memory("fewer than years", x, 0, 5, 20, 0, 25);
        memory("60", x, 0, 60, 0, 60, 60);
        memory("60 by years", x, 0, 70, 20, 50, 60);
        memory("60 alone by years", x, 0, 80, 20, 60, 60);
        memory("all", x, 1, 3, 20, 0, 60);
        memory("no cups by 9", x, 1, 0, 0, 0, 8);
    }

    private static void memoryOfNone() {
        sentence(24, "NONE");
        ThirstScales x = Worlds.read("taster 1 0 1 0;taster 1 5 1 0;");
        memory("one too far above", x, 0, 81, 20, -9, -9);
        memory("far above", x, 0, 999, 20, -9, -9);
        memory("above", x, 0, 61, 0, -9, -9);
        memory("below", x, 1, 4, 0, -9, -9);
        memory("below, by a year", x, 1, 4, 1, 0, 0);
        sentence(24, "BAD");
        due("BAD ahead of NONE", x.memory(0, 999, 0, 2), -1);
        due("BAD ahead of NONE", x.memory(0, 999, 21, 0), -1);
    }

    private static void memoryNoLicksThisHeat() {
        sentence(24, "(no LICKS, this HEAT)");
        ThirstScales x = Worlds.jugged(Worlds.read("load 1;taster 1 0 1 3;taster 1 0 1 0;"), 0, 1, 5);
        memory("he is tired now", x, 0, 30, 0, 30, 30);
        x.heat(9);
        memory("it is hot now", x, 0, 30, 0, 21, 21);
        memory("hotter than told", x, 0, 8, 0, -9, -9);
        memory("as hot as told", x, 0, 9, 0, 0, 0);
        memory("the greatest", x, 0, 69, 0, 60, 60);
    }
}
