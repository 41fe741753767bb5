/** Salt weighed by the thirst of tasters; ../shared/DOC.md tells what each call promises. */
public final class ThirstScales {
    public static final int BAD = -1, STATE = -2, FULL = -3, NONE = -9;
    public static final int NO = -1000000;

    private static final int MOST_BYTES = 200, MOST_LOADS = 5, MOST_TASTERS = 6;
    private static final int MOST_FACTS = 12, MOST_TASTINGS = 8, MOST_WEIGHINGS = 3;
    private static final int MOST_WEIGHT = 60, MOST_HEAT = 9, MOST_YEARS = 20;
    private static final int MOST_CUPS = 999, MOST_SAID_CUPS = 99;
    private static final int MOST_ASKED_LICKS = 99, MOST_TOLD_LICKS = 9;

    private static final int FACT_PARTS = 6;
    private static final int FACT_TASTER = 0, FACT_LICKS = 1, FACT_HEAT = 2;
    private static final int FACT_LOAD = 3, FACT_CUPS = 4, FACT_SAID = 5;

    private static final int TASTING_PARTS = 4;

    private static final int TASTER = 0, CAMEL = 1, CHILD = 2, FEVERISH = 3, INSPECTOR = 4, WELL = 5;

    private final Reader reader = new Reader();
    private final Row weights = new Row(MOST_LOADS);
    private final Row laws = new Row(MOST_TASTERS);
    private final Row tastings = new Row(MOST_TASTINGS * TASTING_PARTS);
    private final Now now = new Now();
    private final Now firstImage = new Now();
    private final Now secondImage = new Now();
    private boolean firstIsKept = false;
    private boolean secondIsKept = false;
    private long marksAsked = 0;

    public ThirstScales() {
    }

    // ---- the gate

    public int type(long v, int n) {
        if (!isWithin(n, 1, 8)) {
            return BAD;
        }
        if (reader.text.size() + n > MOST_BYTES) {
            return FULL;
        }
        for (int i = n - 1; i >= 0; i--) {
            reader.text.add((int) ((v >> (8 * i)) & 255));
        }
        return reader.text.size();
    }

    public int clear() {
        int had = reader.text.size();
        reader.text.cutTo(0);
        return had;
    }

    public int gate() {
        if (!reader.readsAll()) {
            return -10 - reader.fault();
        }
        weights.copyFrom(reader.weights);
        laws.copyFrom(reader.laws);
        now.begin(laws.size(), reader.warmth);
        tastings.cutTo(0);
        firstIsKept = false;
        secondIsKept = false;
        reader.text.cutTo(0);
        return reader.items;
    }

    public int load(int l) {
        return isLoad(l) ? weights.at(l) : BAD;
    }

    public int taster(int t, int what) {
        if (!isTaster(t) || !isWithin(what, 0, 4)) {
            return BAD;
        }
        return what == 4 ? now.licks.at(t) : Law.part(laws.at(t), what);
    }

    public int cups(int t, int weight, int licks) {
        if (!isTaster(t) || !isWeight(weight) || !isWithin(licks, 0, MOST_ASKED_LICKS)) {
            return BAD;
        }
        return Law.drinks(laws.at(t), weight, licks, now.warmth);
    }

    // ---- weighings

    public int weighs(int t, int l) {
        if (!isTaster(t) || !isLoad(l)) {
            return BAD;
        }
        if (facts() >= MOST_FACTS) {
            return FULL;
        }
        int drunk = thirst(t, l);
        addFact(t, l, drunk, 0);
        addLick(t);
        return drunk;
    }

    public int says(int t, int l, int cups) {
        if (!isTaster(t) || !isLoad(l) || !isWithin(cups, 0, MOST_SAID_CUPS)) {
            return BAD;
        }
        if (facts() >= MOST_FACTS) {
            return FULL;
        }
        addFact(t, l, cups, 1);
        return facts();
    }

    public int jug(int t, int u, int l, int c, int what) {
        if (!isTaster(t) || !isTaster(u) || t == u || !isLoad(l)) {
            return BAD;
        }
        if (!isWithin(c, 0, MOST_CUPS) || !isWithin(what, 0, 1)) {
            return BAD;
        }
        int first = Math.min(thirst(t, l), c);
        int second = Math.min(thirst(u, l), c - first);
        addLick(t);
        addLick(u);
        return what == 0 ? first + second : second;
    }

    public int night() {
        int sum = 0;
        for (int t = 0; t < now.licks.size(); t++) {
            sum += now.licks.at(t);
            now.licks.put(t, 0);
        }
        return sum;
    }

    public int heat(int h) {
        if (!isWithin(h, 0, MOST_HEAT)) {
            return BAD;
        }
        int was = now.warmth;
        now.warmth = h;
        return was;
    }

    public int undo() {
        if (facts() == 0) {
            return STATE;
        }
        int latest = facts() - 1;
        int t = fact(latest, FACT_TASTER);
        if (fact(latest, FACT_SAID) == 0) {
            now.licks.put(t, Math.max(now.licks.at(t) - 1, 0));
        }
        now.facts.cutTo(latest * FACT_PARTS);
        return facts();
    }

    public int known(int i, int what) {
        if (!isWithin(i, 0, facts() - 1) || !isWithin(what, 0, FACT_PARTS - 1)) {
            return BAD;
        }
        return fact(i, what);
    }

    // ---- loads

    public int canBe(int l, int what) {
        if (!isLoad(l) || !isWithin(what, 0, 2)) {
            return BAD;
        }
        if (what == 0) {
            return greatestOf(l) - leastOf(l) + 1;
        }
        return what == 1 ? leastOf(l) : greatestOf(l);
    }

    public int next(int l, int what) {
        if (!isLoad(l) || !isWithin(what, 0, 1)) {
            return BAD;
        }
        int least = leastOf(l);
        int greatest = greatestOf(l);
        int best = NONE;
        int fewest = NONE;
        for (int t = 0; t < laws.size(); t++) {
            int left = leftAtWorst(t, least, greatest);
            if (best == NONE || left < fewest) {
                best = t;
                fewest = left;
            }
        }
        return what == 0 ? best : fewest;
    }

    public int enough(int l, int m) {
        if (!isLoad(l) || !isWithin(m, 1, MOST_WEIGHT + 1)) {
            return BAD;
        }
        int least = leastOf(l);
        int greatest = greatestOf(l);
        for (int weighings = 0; weighings <= MOST_WEIGHINGS; weighings++) {
            if (isEnough(least, greatest, m, weighings, 0)) {
                return weighings;
            }
        }
        return NONE;
    }

    public int heavier(int l, int k) {
        if (!isLoad(l) || !isLoad(k) || l == k) {
            return BAD;
        }
        if (leastOf(l) > greatestOf(k)) {
            return 1;
        }
        return greatestOf(l) < leastOf(k) ? -2 : 0;
    }

    // ---- laws

    public int told(int weight, int licks, int heat, int cups) {
        if (!isTasting(weight, licks, heat) || !isWithin(cups, 0, MOST_CUPS)) {
            return BAD;
        }
        if (toldTastings() >= MOST_TASTINGS) {
            return FULL;
        }
        tastings.add(weight);
        tastings.add(licks);
        tastings.add(heat);
        tastings.add(cups);
        return toldTastings();
    }

    public int forget() {
        int were = toldTastings();
        tastings.cutTo(0);
        return were;
    }

    public int learnt(int what) {
        if (!isWithin(what, 0, Law.PARTS)) {
            return BAD;
        }
        int fitting = 0;
        for (int law = 0; law < Law.ALL; law++) {
            if (isAsTold(law)) {
                if (what > 0) {
                    return Law.part(law, what - 1);
                }
                fitting++;
            }
        }
        return what == 0 ? fitting : NONE;
    }

    public int may(int weight, int licks, int heat, int what) {
        if (!isTasting(weight, licks, heat) || !isWithin(what, 0, 1)) {
            return BAD;
        }
        int least = NONE;
        int greatest = NONE;
        for (int law = 0; law < Law.ALL; law++) {
            if (isAsTold(law)) {
                int drunk = Law.drinks(law, weight, licks, heat);
                least = least == NONE ? drunk : Math.min(least, drunk);
                greatest = Math.max(greatest, drunk);
            }
        }
        return what == 0 ? least : greatest;
    }

    public int bribed() {
        int bits = 0;
        for (int i = 0; i < facts(); i++) {
            boolean isSaid = fact(i, FACT_SAID) == 1;
            int weight = weights.at(fact(i, FACT_LOAD));
            if (isSaid && drinksIn(i, weight) != fact(i, FACT_CUPS)) {
                bits |= 1 << fact(i, FACT_TASTER);
            }
        }
        return bits;
    }

    public int memory(int t, int cups, int y, int what) {
        if (!isTaster(t) || !isWithin(cups, 0, MOST_CUPS)) {
            return BAD;
        }
        if (!isWithin(y, 0, MOST_YEARS) || !isWithin(what, 0, 1)) {
            return BAD;
        }
        int found = NONE;
        for (int w = 0; w <= MOST_WEIGHT; w++) {
            int far = Math.abs(Law.drinks(laws.at(t), w, 0, now.warmth) - cups);
            if (far <= y && (what == 1 || found == NONE)) {
                found = w;
            }
        }
        return found;
    }

    // ---- kinds, images

    public int mark(int kind, int t) {
        if (!isTaster(t)) {
            return NO;
        }
        switch (kind) {
            case TASTER: return markOfTaster(t);
            case CAMEL: return markOfCamel(t);
            case CHILD: return markOfChild(t);
            case FEVERISH: return markOfFeverish(t);
            case INSPECTOR: return markOfInspector(t);
            case WELL: return markOfWell(t);
            default: return NO;
        }
    }

    public int keep(int image) {
        if (!isWithin(image, 0, 1)) {
            return BAD;
        }
        imageAt(image).copyFrom(now);
        if (image == 0) {
            firstIsKept = true;
        } else {
            secondIsKept = true;
        }
        return facts();
    }

    public int back(int image) {
        if (!isWithin(image, 0, 1)) {
            return BAD;
        }
        if (!(image == 0 ? firstIsKept : secondIsKept)) {
            return STATE;
        }
        now.copyFrom(imageAt(image));
        return facts();
    }

    public int count(int what) {
        switch (what) {
            case 0: return weights.size();
            case 1: return laws.size();
            case 2: return now.warmth;
            case 3: return facts();
            case 4: return toldTastings();
            case 5: return reader.text.size();
            default: return BAD;
        }
    }

    public long trace() {
        return marksAsked;
    }

    // ---- what may be asked

    private static boolean isWithin(int number, int least, int most) {
        return number >= least && number <= most;
    }

    private static boolean isWeight(int weight) {
        return isWithin(weight, 0, MOST_WEIGHT);
    }

    private boolean isLoad(int l) {
        return weights.has(l);
    }

    private boolean isTaster(int t) {
        return laws.has(t);
    }

    private static boolean isTasting(int weight, int licks, int warmth) {
        return isWeight(weight) && isWithin(licks, 0, MOST_TOLD_LICKS) && isWithin(warmth, 0, MOST_HEAT);
    }

    // ---- what is known

    private int facts() {
        return now.facts.size() / FACT_PARTS;
    }

    private int fact(int i, int part) {
        return now.facts.at(i * FACT_PARTS + part);
    }

    private void addFact(int t, int l, int cups, int isSaid) {
        now.facts.add(t);
        now.facts.add(now.licks.at(t));
        now.facts.add(now.warmth);
        now.facts.add(l);
        now.facts.add(cups);
        now.facts.add(isSaid);
    }

    private void addLick(int t) {
        now.licks.put(t, now.licks.at(t) + 1);
    }

    /** What a taster would drink of a load now. */
    private int thirst(int t, int l) {
        return Law.drinks(laws.at(t), weights.at(l), now.licks.at(t), now.warmth);
    }

    /** What the taster of a fact would have drunk, had the load had this weight. */
    private int drinksIn(int i, int weight) {
        return Law.drinks(laws.at(fact(i, FACT_TASTER)), weight, fact(i, FACT_LICKS), fact(i, FACT_HEAT));
    }

    // ---- what a load can be
    //
    // A is never 0, so cups never fall as the weight grows: the weights by which the cups are the
    // same stand in one span, and so do those that are left behind several weighings. The least
    // and the greatest tell all of them. The true weight is always one of them.

    private boolean canWeigh(int l, int weight) {
        for (int i = 0; i < facts(); i++) {
            boolean matters = fact(i, FACT_LOAD) == l && fact(i, FACT_SAID) == 0;
            if (matters && drinksIn(i, weight) != fact(i, FACT_CUPS)) {
                return false;
            }
        }
        return true;
    }

    private int leastOf(int l) {
        int w = 0;
        while (w < MOST_WEIGHT && !canWeigh(l, w)) {
            w++;
        }
        return w;
    }

    private int greatestOf(int l) {
        int w = MOST_WEIGHT;
        while (w > 0 && !canWeigh(l, w)) {
            w--;
        }
        return w;
    }

    /** The greatest weight, up to the one told, by which as much is drunk as by the first. */
    private int endOfSpan(int law, int licks, int first, int greatest) {
        int drunk = Law.drinks(law, first, licks, now.warmth);
        int w = first;
        while (w < greatest && Law.drinks(law, w + 1, licks, now.warmth) == drunk) {
            w++;
        }
        return w;
    }

    private int leftAtWorst(int t, int least, int greatest) {
        int most = 0;
        int from = least;
        for (int spans = 0; spans <= MOST_WEIGHT && from <= greatest; spans++) {
            int to = endOfSpan(laws.at(t), now.licks.at(t), from, greatest);
            most = Math.max(most, to - from + 1);
            from = to + 1;
        }
        return most;
    }

    /** Licks that grow in a plan are told by two bits a taster: a plan has three weighings at most. */
    private static int plannedLicks(int plan, int t) {
        return (plan >> (2 * t)) & 3;
    }

    private static int planWith(int plan, int t) {
        return plan + (1 << (2 * t));
    }

    private boolean isEnough(int least, int greatest, int m, int weighings, int plan) {
        if (greatest - least + 1 <= m) {
            return true;
        }
        if (weighings <= 0) {
            return false;
        }
        for (int t = 0; t < laws.size(); t++) {
            if (isEnoughBy(t, least, greatest, m, weighings, plan)) {
                return true;
            }
        }
        return false;
    }

    private boolean isEnoughBy(int t, int least, int greatest, int m, int weighings, int plan) {
        int licks = now.licks.at(t) + plannedLicks(plan, t);
        int from = least;
        for (int spans = 0; spans <= MOST_WEIGHT && from <= greatest; spans++) {
            int to = endOfSpan(laws.at(t), licks, from, greatest);
            if (!isEnough(from, to, m, weighings - 1, planWith(plan, t))) {
                return false;
            }
            from = to + 1;
        }
        return true;
    }

    // ---- what is learnt

    private int toldTastings() {
        return tastings.size() / TASTING_PARTS;
    }

    private boolean isAsTold(int law) {
        for (int i = 0; i < tastings.size(); i += TASTING_PARTS) {
            int drunk = Law.drinks(law, tastings.at(i), tastings.at(i + 1), tastings.at(i + 2));
            if (drunk != tastings.at(i + 3)) {
                return false;
            }
        }
        return true;
    }

    // ---- the bodies of the kinds

    private int markOfTaster(int t) {
        marksAsked += 1;
        return Law.part(laws.at(t), Law.A);
    }

    private int markOfCamel(int t) {
        marksAsked += 10;
        return markOfTaster(t) + now.licks.at(t);
    }

    private int markOfChild(int t) {
        marksAsked += 100;
        return markOfTaster(t) - Law.part(laws.at(t), Law.T);
    }

    private int markOfFeverish(int t) {
        marksAsked += 1000;
        return markOfCamel(t) * 2;
    }

    private int markOfInspector(int t) {
        marksAsked += 10000;
        return markOfChild(t) + t;
    }

    private int markOfWell(int t) {
        marksAsked += 100000;
        return markOfTaster(t) + now.warmth;
    }

    private Now imageAt(int image) {
        return image == 0 ? firstImage : secondImage;
    }

    /** Numbers in a row that was made once; no place outside it is ever touched. */
    private static final class Row {
        private final int[] cells;
        private int used = 0;

        Row(int most) {
            cells = new int[Math.max(most, 0)];
        }

        int size() {
            return used;
        }

        boolean has(int i) {
            return i >= 0 && i < used;
        }

        int at(int i) {
            return i >= 0 && i < used && i < cells.length ? cells[i] : 0;
        }

        void put(int i, int number) {
            if (i >= 0 && i < used && i < cells.length) {
                cells[i] = number;
            }
        }

        void add(int number) {
            if (used >= 0 && used < cells.length) {
                cells[used] = number;
                used++;
            }
        }

        void cutTo(int size) {
            if (size >= 0 && size < used) {
                used = size;
            }
        }

        void copyFrom(Row other) {
            cutTo(0);
            if (other == null) {
                return;
            }
            for (int i = 0; i < other.size(); i++) {
                add(other.at(i));
            }
        }
    }

    /** All that an image keeps. */
    private static final class Now {
        final Row licks = new Row(MOST_TASTERS);
        final Row facts = new Row(MOST_FACTS * FACT_PARTS);
        int warmth = 0;

        void begin(int tasters, int warmthTold) {
            licks.cutTo(0);
            for (int t = 0; t < tasters; t++) {
                licks.add(0);
            }
            facts.cutTo(0);
            warmth = warmthTold;
        }

        void copyFrom(Now other) {
            if (other == null) {
                return;
            }
            licks.copyFrom(other.licks);
            facts.copyFrom(other.facts);
            warmth = other.warmth;
        }
    }

    /**
     * A law is one number: all laws are numbered from 0 in their order by A, B, D, T, so that
     * learning goes through numbers and makes no objects.
     */
    private static final class Law {
        static final int PARTS = 4, A = 0, B = 1, D = 2, T = 3;
        static final int ALL = 9 * 10 * 9 * 4;

        static int numbered(int a, int b, int d, int t) {
            return (((a - 1) * 10 + b) * 9 + d - 1) * 4 + t;
        }

        static int part(int law, int part) {
            switch (part) {
                case A: return law / 360 + 1;
                case B: return law / 36 % 10;
                case D: return law / 4 % 9 + 1;
                case T: return law % 4;
                default: return 0;
            }
        }

        static int least(int part) {
            return part == A || part == D ? 1 : 0;
        }

        static int most(int part) {
            return part == T ? 3 : 9;
        }

        static int drinks(int law, int weight, int licks, int warmth) {
            int d = part(law, D);
            if (d < 1) {
                return 0;
            }
            int thirst = Math.max(part(law, A) * weight - part(law, T) * licks, 0);
            return (thirst + part(law, B) + warmth) / d;
        }
    }

    /** Holds the text and reads it into rows of its own: a fault leaves everything else as it was. */
    private static final class Reader {
        private static final int END = 0, WRONG = 1, LOAD_WORD = 2, TASTER_WORD = 3;
        private static final int HEAT_WORD = 4, NUMBER = 5, SEMICOLON = 6;

        final Row text = new Row(MOST_BYTES);
        final Row weights = new Row(MOST_LOADS);
        final Row laws = new Row(MOST_TASTERS);
        int warmth = 0;
        int items = 0;
        private final Row parts = new Row(Law.PARTS);
        private boolean heatIsTold = false;
        private int place = 0;
        private int start = 0;
        private int token = END;
        private int value = 0;

        /** The first byte of the token that was read last; the text's length behind all tokens. */
        int fault() {
            return start;
        }

        boolean readsAll() {
            beginAnew();
            for (int i = 0; i <= MOST_BYTES; i++) {
                readToken();
                if (token == END) {
                    return true;
                }
                boolean isItem = false;
                switch (token) {
                    case LOAD_WORD: isItem = readsLoad(); break;
                    case TASTER_WORD: isItem = readsTaster(); break;
                    case HEAT_WORD: isItem = readsHeat(); break;
                    default: break;
                }
                if (!isItem) {
                    return false;
                }
                items++;
            }
            return false;
        }

        private void beginAnew() {
            weights.cutTo(0);
            laws.cutTo(0);
            warmth = 0;
            heatIsTold = false;
            items = 0;
            place = 0;
        }

        private boolean readsLoad() {
            if (weights.size() >= MOST_LOADS || !readsNumber(0, MOST_WEIGHT)) {
                return false;
            }
            weights.add(value);
            return readsEndOfItem();
        }

        private boolean readsTaster() {
            if (laws.size() >= MOST_TASTERS) {
                return false;
            }
            parts.cutTo(0);
            for (int part = 0; part < Law.PARTS; part++) {
                if (!readsNumber(Law.least(part), Law.most(part))) {
                    return false;
                }
                parts.add(value);
            }
            laws.add(Law.numbered(parts.at(Law.A), parts.at(Law.B), parts.at(Law.D), parts.at(Law.T)));
            return readsEndOfItem();
        }

        private boolean readsHeat() {
            if (heatIsTold || !readsNumber(0, MOST_HEAT)) {
                return false;
            }
            heatIsTold = true;
            warmth = value;
            return readsEndOfItem();
        }

        private boolean readsNumber(int least, int most) {
            readToken();
            return token == NUMBER && value >= least && value <= most;
        }

        private boolean readsEndOfItem() {
            readToken();
            return token == SEMICOLON;
        }

        private void readToken() {
            while (place < text.size() && text.at(place) == ' ') {
                place++;
            }
            start = place;
            if (place >= text.size()) {
                token = END;
            } else if (isDigit(text.at(place))) {
                readDigits();
            } else if (isLetter(text.at(place))) {
                readLetters();
            } else {
                token = text.at(place) == ';' ? SEMICOLON : WRONG;
                place++;
            }
        }

        private void readDigits() {
            value = 0;
            while (place < text.size() && isDigit(text.at(place))) {
                // a long one may wrap around here: its length makes it wrong anyway
                value = value * 10 + text.at(place) - '0';
                place++;
            }
            int digits = place - start;
            boolean isRight = digits == 1 || digits == 2 && text.at(start) != '0';
            token = isRight ? NUMBER : WRONG;
        }

        private void readLetters() {
            while (place < text.size() && isLetter(text.at(place))) {
                place++;
            }
            if (isWord("load")) {
                token = LOAD_WORD;
            } else if (isWord("taster")) {
                token = TASTER_WORD;
            } else {
                token = isWord("heat") ? HEAT_WORD : WRONG;
            }
        }

        private boolean isWord(String word) {
            if (word == null || place - start != word.length()) {
                return false;
            }
            for (int i = 0; i < word.length(); i++) {
                if (text.at(start + i) != word.charAt(i)) {
                    return false;
                }
            }
            return true;
        }

        private static boolean isDigit(int sign) {
            return sign >= '0' && sign <= '9';
        }

        private static boolean isLetter(int sign) {
            return sign >= 'a' && sign <= 'z';
        }
    }
}
