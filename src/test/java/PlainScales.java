import java.util.ArrayList;
import java.util.Collection;
import java.util.List;
import java.util.TreeMap;
import java.util.TreeSet;
import java.util.regex.Matcher;
import java.util.regex.Pattern;

/**
 * The document once more, in another way: sets of weights and not spans, laws as rows and not
 * numbers, tokens by a pattern. It is slow and makes many objects; OracleTest compares with it.
 */
final class PlainScales {
    private static final int BAD = -1, STATE = -2, FULL = -3, NONE = -9, NO = -1000000;

    private record Fact(int t, int licks, int heat, int l, int cups, boolean said) {
    }

    private record Image(int[] licks, int heat, List<Fact> facts) {
    }

    private final StringBuilder text = new StringBuilder();
    private List<Integer> loads = new ArrayList<>();
    private List<int[]> laws = new ArrayList<>();
    private int[] licks = new int[0];
    private int heat = 0;
    private List<Fact> facts = new ArrayList<>();
    private final List<int[]> tastings = new ArrayList<>();
    private final Image[] images = new Image[2];
    private long trace = 0;

    int type(long v, int n) {
        if (n < 1 || n > 8) {
            return BAD;
        }
        if (text.length() + n > 200) {
            return FULL;
        }
        StringBuilder reversed = new StringBuilder();
        for (int i = 0; i < n; i++) {
            reversed.append((char) (v & 0xFF));
            v >>>= 8;
        }
        text.append(reversed.reverse());
        return text.length();
    }

    int clear() {
        int had = text.length();
        text.setLength(0);
        return had;
    }

    int gate() {
        List<Integer> newLoads = new ArrayList<>();
        List<int[]> newLaws = new ArrayList<>();
        int newHeat = -1;
        int items = 0;
        Matcher tokens = Pattern.compile("\\G *([a-z]+|[0-9]+|;|[^ ])", Pattern.DOTALL).matcher(text);
        while (tokens.find()) {
            String word = tokens.group(1);
            int ranges = word.equals("load") ? 1 : word.equals("taster") ? 4 : word.equals("heat") ? 1 : 0;
            boolean tooMany = word.equals("load") && newLoads.size() == 5
                || word.equals("taster") && newLaws.size() == 6 || word.equals("heat") && newHeat >= 0;
            if (ranges == 0 || tooMany) {
                return -10 - tokens.start(1);
            }
            int[] numbers = new int[ranges];
            for (int i = 0; i < ranges; i++) {
                if (!tokens.find()) {
                    return -10 - text.length();
                }
                String number = tokens.group(1);
                int most = word.equals("load") ? 60 : word.equals("heat") || i < 3 ? 9 : 3;
                int least = word.equals("taster") && (i == 0 || i == 2) ? 1 : 0;
                if (!number.matches("0|[1-9][0-9]?") || Integer.parseInt(number) > most
                    || Integer.parseInt(number) < least) {
                    return -10 - tokens.start(1);
                }
                numbers[i] = Integer.parseInt(number);
            }
            if (!tokens.find()) {
                return -10 - text.length();
            }
            if (!tokens.group(1).equals(";")) {
                return -10 - tokens.start(1);
            }
            if (word.equals("load")) {
                newLoads.add(numbers[0]);
            } else if (word.equals("taster")) {
                newLaws.add(numbers);
            } else {
                newHeat = numbers[0];
            }
            items++;
        }
        loads = newLoads;
        laws = newLaws;
        licks = new int[laws.size()];
        heat = Math.max(newHeat, 0);
        facts = new ArrayList<>();
        tastings.clear();
        images[0] = null;
        images[1] = null;
        text.setLength(0);
        return items;
    }

    int load(int l) {
        return hasLoad(l) ? loads.get(l) : BAD;
    }

    int taster(int t, int what) {
        return !hasTaster(t) || what < 0 || what > 4 ? BAD : what == 4 ? licks[t] : laws.get(t)[what];
    }

    int cups(int t, int weight, int times) {
        boolean bad = !hasTaster(t) || weight < 0 || weight > 60 || times < 0 || times > 99;
        return bad ? BAD : drinks(laws.get(t), weight, times, heat);
    }

    int weighs(int t, int l) {
        if (!hasTaster(t) || !hasLoad(l)) {
            return BAD;
        }
        if (facts.size() == 12) {
            return FULL;
        }
        int drunk = drinks(laws.get(t), loads.get(l), licks[t], heat);
        facts.add(new Fact(t, licks[t]++, heat, l, drunk, false));
        return drunk;
    }

    int says(int t, int l, int cups) {
        if (!hasTaster(t) || !hasLoad(l) || cups < 0 || cups > 99) {
            return BAD;
        }
        if (facts.size() == 12) {
            return FULL;
        }
        facts.add(new Fact(t, licks[t], heat, l, cups, true));
        return facts.size();
    }

    int jug(int t, int u, int l, int c, int what) {
        boolean bad = !hasTaster(t) || !hasTaster(u) || t == u || !hasLoad(l);
        if (bad || c < 0 || c > 999 || what < 0 || what > 1) {
            return BAD;
        }
        int[] drunk = {0, 0};
        int[] who = {t, u};
        int left = c;
        for (int i = 0; i < 2; i++) {
            int wants = drinks(laws.get(who[i]), loads.get(l), licks[who[i]]++, heat);
            while (wants > 0 && left > 0) {
                wants--;
                left--;
                drunk[i]++;
            }
        }
        return what == 0 ? drunk[0] + drunk[1] : drunk[1];
    }

    int night() {
        int sum = 0;
        for (int each : licks) {
            sum += each;
        }
        licks = new int[laws.size()];
        return sum;
    }

    int heat(int h) {
        if (h < 0 || h > 9) {
            return BAD;
        }
        int was = heat;
        heat = h;
        return was;
    }

    int undo() {
        if (facts.isEmpty()) {
            return STATE;
        }
        Fact last = facts.remove(facts.size() - 1);
        if (!last.said && licks[last.t] > 0) {
            licks[last.t]--;
        }
        return facts.size();
    }

    int known(int i, int what) {
        if (i < 0 || i >= facts.size() || what < 0 || what > 5) {
            return BAD;
        }
        Fact f = facts.get(i);
        return new int[] {f.t, f.licks, f.heat, f.l, f.cups, f.said ? 1 : 0}[what];
    }

    int canBe(int l, int what) {
        if (!hasLoad(l) || what < 0 || what > 2) {
            return BAD;
        }
        TreeSet<Integer> left = left(l);
        return what == 0 ? left.size() : what == 1 ? left.first() : left.last();
    }

    int next(int l, int what) {
        if (!hasLoad(l) || what < 0 || what > 1) {
            return BAD;
        }
        int[] worst = new int[laws.size()];
        for (int t = 0; t < worst.length; t++) {
            for (Collection<Integer> part : parts(t, licks[t], left(l))) {
                worst[t] = Math.max(worst[t], part.size());
            }
        }
        for (int fewest = 0; fewest <= 61; fewest++) {
            for (int t = 0; t < worst.length; t++) {
                if (worst[t] == fewest) {
                    return what == 0 ? t : fewest;
                }
            }
        }
        return NONE;
    }

    int enough(int l, int m) {
        if (!hasLoad(l) || m < 1 || m > 61) {
            return BAD;
        }
        int fewest = fewest(left(l), licks.clone(), m, 3);
        return fewest > 3 ? NONE : fewest;
    }

    private int fewest(Collection<Integer> left, int[] grown, int m, int most) {
        if (left.size() <= m) {
            return 0;
        }
        int best = 99;
        for (int t = 0; t < grown.length && most > 0; t++) {
            int worst = 0;
            int[] then = grown.clone();
            then[t]++;
            for (Collection<Integer> part : parts(t, grown[t], left)) {
                worst = worst < 99 ? Math.max(worst, 1 + fewest(part, then, m, most - 1)) : worst;
            }
            best = Math.min(best, worst);
        }
        return best;
    }

    int heavier(int l, int k) {
        if (!hasLoad(l) || !hasLoad(k) || l == k) {
            return BAD;
        }
        boolean above = true;
        boolean below = true;
        for (int w : left(l)) {
            for (int v : left(k)) {
                above &= w > v;
                below &= w < v;
            }
        }
        return above ? 1 : below ? -2 : 0;
    }

    int told(int weight, int times, int warmth, int cups) {
        boolean bad = weight < 0 || weight > 60 || times < 0 || times > 9 || warmth < 0 || warmth > 9;
        if (bad || cups < 0 || cups > 999) {
            return BAD;
        }
        if (tastings.size() == 8) {
            return FULL;
        }
        tastings.add(new int[] {weight, times, warmth, cups});
        return tastings.size();
    }

    int forget() {
        int were = tastings.size();
        tastings.clear();
        return were;
    }

    private List<int[]> learntLaws() {
        List<int[]> found = new ArrayList<>();
        for (int a = 1; a <= 9; a++) {
            for (int b = 0; b <= 9; b++) {
                for (int d = 1; d <= 9; d++) {
                    for (int t = 0; t <= 3; t++) {
                        int[] law = {a, b, d, t};
                        boolean asTold = true;
                        for (int[] each : tastings) {
                            asTold = asTold && drinks(law, each[0], each[1], each[2]) == each[3];
                        }
                        if (asTold) {
                            found.add(law);
                        }
                    }
                }
            }
        }
        return found;
    }

    int learnt(int what) {
        if (what < 0 || what > 4) {
            return BAD;
        }
        List<int[]> found = learntLaws();
        return what == 0 ? found.size() : found.isEmpty() ? NONE : found.get(0)[what - 1];
    }

    int may(int weight, int times, int warmth, int what) {
        boolean bad = weight < 0 || weight > 60 || times < 0 || times > 9 || warmth < 0 || warmth > 9;
        if (bad || what < 0 || what > 1) {
            return BAD;
        }
        TreeSet<Integer> drunk = new TreeSet<>();
        for (int[] law : learntLaws()) {
            drunk.add(drinks(law, weight, times, warmth));
        }
        return drunk.isEmpty() ? NONE : what == 0 ? drunk.first() : drunk.last();
    }

    int bribed() {
        TreeSet<Integer> who = new TreeSet<>();
        for (Fact f : facts) {
            if (f.said && f.cups != drinks(laws.get(f.t), loads.get(f.l), f.licks, f.heat)) {
                who.add(f.t);
            }
        }
        int bits = 0;
        for (int t : who) {
            bits += (int) Math.pow(2, t);
        }
        return bits;
    }

    int memory(int t, int cups, int y, int what) {
        boolean bad = !hasTaster(t) || cups < 0 || cups > 999 || y < 0 || y > 20;
        if (bad || what < 0 || what > 1) {
            return BAD;
        }
        TreeSet<Integer> near = new TreeSet<>();
        for (int w = 0; w <= 60; w++) {
            int drunk = drinks(laws.get(t), w, 0, heat);
            if (drunk >= cups - y && drunk <= cups + y) {
                near.add(w);
            }
        }
        return near.isEmpty() ? NONE : what == 0 ? near.first() : near.last();
    }

    int mark(int kind, int t) {
        if (kind < 0 || kind > 5 || !hasTaster(t)) {
            return NO;
        }
        int a = laws.get(t)[0];
        int tires = laws.get(t)[3];
        trace += new int[] {1, 11, 101, 1011, 10101, 100001}[kind];
        return new int[] {a, a + licks[t], a - tires, 2 * a + 2 * licks[t], a - tires + t, a + heat}[kind];
    }

    int keep(int image) {
        if (image < 0 || image > 1) {
            return BAD;
        }
        images[image] = new Image(licks.clone(), heat, List.copyOf(facts));
        return facts.size();
    }

    int back(int image) {
        if (image < 0 || image > 1) {
            return BAD;
        }
        if (images[image] == null) {
            return STATE;
        }
        licks = images[image].licks.clone();
        heat = images[image].heat;
        facts = new ArrayList<>(images[image].facts);
        return facts.size();
    }

    int count(int what) {
        int[] counts = {loads.size(), laws.size(), heat, facts.size(), tastings.size(), text.length()};
        return what < 0 || what > 5 ? BAD : counts[what];
    }

    long trace() {
        return trace;
    }

    private boolean hasLoad(int l) {
        return l >= 0 && l < loads.size();
    }

    private boolean hasTaster(int t) {
        return t >= 0 && t < laws.size();
    }

    private static int drinks(int[] law, int weight, int times, int warmth) {
        int salt = law[0] * weight - law[3] * times;
        return ((salt < 0 ? 0 : salt) + law[1] + warmth) / law[2];
    }

    private TreeSet<Integer> left(int l) {
        TreeSet<Integer> left = new TreeSet<>();
        for (int w = 0; w <= 60; w++) {
            boolean can = true;
            for (Fact f : facts) {
                if (f.l == l && !f.said) {
                    can &= drinks(laws.get(f.t), w, f.licks, f.heat) == f.cups;
                }
            }
            if (can) {
                left.add(w);
            }
        }
        return left;
    }

    private Collection<List<Integer>> parts(int t, int times, Collection<Integer> left) {
        TreeMap<Integer, List<Integer>> byCups = new TreeMap<>();
        for (int w : left) {
            byCups.computeIfAbsent(drinks(laws.get(t), w, times, heat), cups -> new ArrayList<>()).add(w);
        }
        return byCups.values();
    }
}
