import java.util.ArrayList;
import java.util.Arrays;
import java.util.HashSet;
import java.util.List;
import java.util.Set;
import java.util.TreeSet;

/** The document once more, as plainly and slowly as can be: all dressings are tried. */
final class Oracle {
    static final int NONE = -1, UNKNOWN = -1000000001, OUTSIDE = -1000000002, NOT = -1000000003, FULL = -1000000004;

    static final class Part implements Cloneable {
        int kind, landlord, width, price, a, b, worn;
        final Set<Integer> clashes = new TreeSet<>();

        Part copy() {
            Part p = new Part();
            p.kind = kind;
            p.landlord = landlord;
            p.width = width;
            p.price = price;
            p.a = a;
            p.b = b;
            p.worn = worn;
            p.clashes.addAll(clashes);
            return p;
        }
    }

    record Scene(int hour, int u, int v) { }

    record Pair(int hour, int value) { }

    record Token(char sort, int at, String text) { }

    /** A dressing: the looks of the scenes. */
    record Dressing(int price, int[] sets, int[] looks) { }

    static final class Image {
        List<Part> parts = new ArrayList<>();
        int spent, law, days, seed;
    }

    private final StringBuilder text = new StringBuilder();
    private List<Part> parts = new ArrayList<>();
    private List<Scene> scenes = new ArrayList<>();
    private int clashCount;
    private int faultAt = NONE;
    private int law, spent, days, seed;
    private final List<Pair> sightings = new ArrayList<>();
    private final List<Pair> book = new ArrayList<>();
    private final Image[] images = new Image[2];

    // ---- the town

    int feed(int n, long bytes) {
        if (n < 1 || n > 8) {
            return OUTSIDE;
        }
        if (text.length() + n > 400) {
            return FULL;
        }
        for (int k = 8 - n; k < 8; k++) {
            text.append((char) (bytes >> (56 - 8 * k) & 255));
        }
        return text.length();
    }

    private static List<Token> tokens(String s) {
        List<Token> all = new ArrayList<>();
        int i = 0;
        while (i < s.length()) {
            int start = i;
            char c = s.charAt(i);
            if (c == ' ') {
                i++;
                continue;
            }
            if (c >= 'a' && c <= 'z') {
                while (i < s.length() && s.charAt(i) >= 'a' && s.charAt(i) <= 'z') {
                    i++;
                }
                all.add(new Token('w', start, s.substring(start, i)));
            } else if (c >= '0' && c <= '9') {
                while (i < s.length() && s.charAt(i) >= '0' && s.charAt(i) <= '9') {
                    i++;
                }
                all.add(new Token('n', start, s.substring(start, i)));
            } else {
                i++;
                all.add(new Token(c, start, s.substring(start, i)));
            }
        }
        all.add(new Token('e', s.length(), ""));
        return all;
    }

    /** All that a clause holds behind its first word: a word of KIND, or a number's bound. */
    private static final int[][] SHAPES = {{-2, 3, 9, 99, 11, 11}, {-3, -3}, {11, 27, 27}};

    int town() {
        String s = text.toString();
        text.setLength(0);
        List<Part> newParts = new ArrayList<>();
        List<Scene> newScenes = new ArrayList<>();
        int newClashes = 0;
        List<Token> all = tokens(s);
        int i = 0;
        while (all.get(i).sort != 'e') {
            Token head = all.get(i++);
            int which = head.sort == 'w' ? List.of("part", "clash", "scene").indexOf(head.text) : -1;
            if (which < 0) {
                return faulty(1, head.at);
            }
            int told = which == 0 ? newParts.size() : which == 1 ? newClashes : newScenes.size();
            if (told == (which == 0 ? 10 : which == 1 ? 15 : 8)) {
                return faulty(3, head.at);
            }
            int[] shape = SHAPES[which];
            int[] value = new int[shape.length];
            for (int k = 0; k < shape.length; k++) {
                Token t = all.get(i++);
                if (shape[k] == -2) {
                    value[k] = t.sort == 'w' ? List.of("brow", "eyes", "mouth").indexOf(t.text) : -1;
                    if (value[k] < 0) {
                        return faulty(1, t.at);
                    }
                    continue;
                }
                if (t.sort != 'n') {
                    return faulty(1, t.at);
                }
                int bound = shape[k] == -3 ? newParts.size() - 1 : shape[k];
                if (t.text.length() > 3 || Integer.parseInt(t.text) > bound) {
                    return faulty(2, t.at);
                }
                value[k] = Integer.parseInt(t.text);
                boolean last = k == shape.length - 1;
                if (last && which != 1 && value[k] < value[k - 1]) {
                    return faulty(4, t.at);
                }
                if (last && which == 1 && (value[0] == value[1] || newParts.get(value[0]).clashes.contains(value[1]))) {
                    return faulty(4, t.at);
                }
            }
            Token end = all.get(i++);
            if (end.sort != ';') {
                return faulty(1, end.at);
            }
            if (which == 0) {
                Part p = new Part();
                p.kind = value[0];
                p.landlord = value[1];
                p.width = value[2];
                p.price = value[3];
                p.a = value[4];
                p.b = value[5];
                newParts.add(p);
            } else if (which == 1) {
                newClashes++;
                newParts.get(value[0]).clashes.add(value[1]);
                newParts.get(value[1]).clashes.add(value[0]);
            } else {
                newScenes.add(new Scene(value[0], value[1], value[2]));
            }
        }
        faultAt = NONE;
        parts = newParts;
        scenes = newScenes;
        clashCount = newClashes;
        spent = 0;
        days = 0;
        sightings.clear();
        book.clear();
        Arrays.fill(images, null);
        return parts.size();
    }

    private int faulty(int number, int at) {
        faultAt = at;
        return -10 - number;
    }

    int fault() {
        return faultAt;
    }

    int told(int what) {
        if (what < 0 || what > 10) {
            return OUTSIDE;
        }
        return new int[] {parts.size(), scenes.size(), clashCount, text.length(), law, spent, days,
            sightings.size(), book.size(), looks().size(), setOf(widths())}[what];
    }

    int part(int p, int what) {
        if (p < 0 || p >= parts.size()) {
            return UNKNOWN;
        }
        if (what < 0 || what > 7) {
            return OUTSIDE;
        }
        Part x = parts.get(p);
        return new int[] {x.kind, x.landlord, x.width, x.price, x.a, x.b, setOf(x.clashes), x.worn}[what];
    }

    int scene(int s, int what) {
        if (s < 0 || s >= scenes.size()) {
            return UNKNOWN;
        }
        if (what < 0 || what > 2) {
            return OUTSIDE;
        }
        Scene x = scenes.get(s);
        return new int[] {x.hour, x.u, x.v}[what];
    }

    int look(int i, int what) {
        if (what < 0 || what > 2) {
            return OUTSIDE;
        }
        List<int[]> all = looks();
        if (i < 0 || i >= all.size()) {
            return NONE;
        }
        return new int[] {setOfLook(all.get(i)), widthOf(all.get(i)), priceOf(all.get(i))}[what];
    }

    private static int setOf(Set<Integer> numbers) {
        int set = 0;
        for (int k : numbers) {
            set += 1 << k;
        }
        return set;
    }

    private List<Integer> ofKind(int kind) {
        List<Integer> all = new ArrayList<>();
        for (int p = 0; p < parts.size(); p++) {
            if (parts.get(p).kind == kind) {
                all.add(p);
            }
        }
        return all;
    }

    private List<int[]> looks() {
        List<int[]> all = new ArrayList<>();
        for (int b : ofKind(0)) {
            for (int e : ofKind(1)) {
                for (int m : ofKind(2)) {
                    Set<Integer> bad = new HashSet<>(parts.get(b).clashes);
                    bad.addAll(parts.get(e).clashes);
                    bad.addAll(parts.get(m).clashes);
                    if (!bad.contains(b) && !bad.contains(e) && !bad.contains(m)) {
                        all.add(new int[] {b, e, m});
                    }
                }
            }
        }
        return all;
    }

    private static int setOfLook(int[] look) {
        return (1 << look[0]) + (1 << look[1]) + (1 << look[2]);
    }

    private int widthOf(int[] look) {
        int sum = 0;
        for (int p : look) {
            sum += parts.get(p).width;
        }
        return sum;
    }

    private int priceOf(int[] look) {
        int sum = 0;
        for (int p : look) {
            sum += parts.get(p).price;
        }
        return sum;
    }

    private boolean isFree(int p, int hour, int closed) {
        return parts.get(p).landlord != closed && parts.get(p).a <= hour && parts.get(p).b >= hour;
    }

    private boolean isFree(int[] look, int hour, int closed) {
        return isFree(look[0], hour, closed) && isFree(look[1], hour, closed) && isFree(look[2], hour, closed);
    }

    private Set<Integer> widths() {
        Set<Integer> all = new TreeSet<>();
        for (int[] look : looks()) {
            all.add(widthOf(look));
        }
        return all;
    }

    // ---- dressing

    int law(int v) {
        if (v != 0 && v != 1) {
            return OUTSIDE;
        }
        int was = law;
        law = v;
        return was;
    }

    int price(int p, int v) {
        if (p < 0 || p >= parts.size()) {
            return UNKNOWN;
        }
        if (v < 0 || v > 99) {
            return OUTSIDE;
        }
        int was = parts.get(p).price;
        parts.get(p).price = v;
        return was;
    }

    int width(int p, int v) {
        if (p < 0 || p >= parts.size()) {
            return UNKNOWN;
        }
        if (v < 0 || v > 9) {
            return OUTSIDE;
        }
        int was = parts.get(p).width;
        parts.get(p).width = v;
        return was;
    }

    private boolean isFor(int[] look, Scene s, int closed) {
        return isFree(look, s.hour, closed) && widthOf(look) >= s.u && widthOf(look) <= s.v;
    }

    int cheapest(int s, int what) {
        if (s < 0 || s >= scenes.size()) {
            return UNKNOWN;
        }
        if (what != 0 && what != 1) {
            return OUTSIDE;
        }
        int[] best = null;
        for (int[] look : looks()) {
            if (isFor(look, scenes.get(s), NONE) && (best == null || priceOf(look) < priceOf(best))) {
                best = look;
            }
        }
        return best == null ? NONE : what == 0 ? setOfLook(best) : priceOf(best);
    }

    private Dressing best;

    private Dressing best(int closed) {
        best = null;
        tryAll(looks(), new int[scenes.size()], 0, new int[12], closed);
        return best;
    }

    private void tryAll(List<int[]> looks, int[] chosen, int s, int[] sets, int closed) {
        if (s == scenes.size()) {
            int price = 0;
            for (int look : chosen) {
                price += priceOf(looks.get(look));
            }
            Dressing now = new Dressing(price, sets.clone(), chosen.clone());
            if (best == null || isAhead(now, best)) {
                best = now;
            }
            return;
        }
        int h = scenes.get(s).hour;
        for (int k = 0; k < looks.size(); k++) {
            int set = setOfLook(looks.get(k));
            if (!isFor(looks.get(k), scenes.get(s), closed) || (sets[h] & set) != 0) {
                continue;
            }
            if (law == 1 && (h > 0 && (sets[h - 1] & set) != 0 || h < 11 && (sets[h + 1] & set) != 0)) {
                continue;
            }
            sets[h] += set;
            chosen[s] = k;
            tryAll(looks, chosen, s + 1, sets, closed);
            sets[h] -= set;
        }
    }

    private boolean isAhead(Dressing x, Dressing y) {
        if (x.price != y.price) {
            return x.price < y.price;
        }
        for (int h = 0; h < 12; h++) {
            if (x.sets[h] != y.sets[h]) {
                return x.sets[h] < y.sets[h];
            }
            for (int s = 0; s < scenes.size(); s++) {
                if (scenes.get(s).hour == h && x.looks[s] != y.looks[s]) {
                    return x.looks[s] < y.looks[s];
                }
            }
        }
        return false;
    }

    int dressing(int s) {
        if (s != NONE && (s < 0 || s >= scenes.size())) {
            return UNKNOWN;
        }
        Dressing d = best(NONE - 1);
        return d == null ? NONE : s == NONE ? d.price : setOfLook(looks().get(d.looks[s]));
    }

    private int rentNow(int l) {
        Dressing d = best(NONE - 1);
        int sum = 0;
        if (d != null) {
            for (int s : d.looks) {
                for (int p : looks().get(s)) {
                    sum += parts.get(p).landlord == l ? parts.get(p).price : 0;
                }
            }
        }
        return sum;
    }

    int rent(int l) {
        return l < 0 || l > 3 ? OUTSIDE : rentNow(l);
    }

    int without(int l) {
        if (l < 0 || l > 3) {
            return OUTSIDE;
        }
        Dressing now = best(NONE - 1);
        Dressing then = best(l);
        return now == null || then == null ? NONE : then.price - now.price;
    }

    int raise(int l, int what) {
        if (l < 0 || l > 3 || what < 0 || what > 1) {
            return OUTSIDE;
        }
        List<Part> was = copies(parts);
        int most = -1;
        int by = -1;
        for (int more = 0; more <= 20; more++) {
            parts = copies(was);
            for (Part p : parts) {
                if (p.landlord == l) {
                    p.price = Math.min(99, p.price + more);
                }
            }
            int rent = rentNow(l);
            if (rent > most) {
                most = rent;
                by = more;
            }
        }
        parts = was;
        return what == 0 ? by : most;
    }

    private static List<Part> copies(List<Part> list) {
        List<Part> all = new ArrayList<>();
        for (Part p : list) {
            all.add(p.copy());
        }
        return all;
    }

    // ---- looks

    int grow(int what) {
        if (what < 0 || what > 2) {
            return OUTSIDE;
        }
        int[] grown = {NONE, NONE, NONE};
        for (int p = 0; p < parts.size(); p++) {
            int own = parts.get(p).width;
            for (int w = 0; w <= 9; w++) {
                parts.get(p).width = w;
                int many = widths().size();
                if (many > grown[2]) {
                    grown = new int[] {p, w, many};
                }
            }
            parts.get(p).width = own;
        }
        return grown[what];
    }

    int wedding(int hour, int what) {
        if (hour < 0 || hour > 11 || what < 0 || what > 1) {
            return OUTSIDE;
        }
        int[] bestPair = null;
        List<int[]> all = looks();
        for (int i = 0; i < all.size(); i++) {
            for (int j = 0; j < all.size(); j++) {
                int[] x = all.get(i);
                int[] y = all.get(j);
                if (i >= j || !isFree(x, hour, -2) || !isFree(y, hour, -2) || widthOf(x) != widthOf(y)
                        || (setOfLook(x) & setOfLook(y)) != 0) {
                    continue;
                }
                if (bestPair == null || priceOf(x) + priceOf(y) < bestPair[0]) {
                    bestPair = new int[] {priceOf(x) + priceOf(y), setOfLook(x) + setOfLook(y)};
                }
            }
        }
        return bestPair == null ? NONE : bestPair[what];
    }

    int see(int hour, int wide) {
        if (hour < 0 || hour > 11 || wide < 0 || wide > 27) {
            return OUTSIDE;
        }
        if (sightings.size() == 20) {
            return FULL;
        }
        sightings.add(new Pair(hour, wide));
        return sightings.size();
    }

    private int[] maySure(Pair seen) {
        int may = 0;
        int sure = 1023;
        for (int[] look : looks()) {
            if (isFree(look, seen.hour, -2) && widthOf(look) == seen.value) {
                may |= setOfLook(look);
                sure &= setOfLook(look);
            }
        }
        return new int[] {may, may == 0 ? 0 : sure};
    }

    int seen(int i, int what) {
        if (what < 0 || what > 1) {
            return OUTSIDE;
        }
        return i < 0 || i >= sightings.size() ? NONE : maySure(sightings.get(i))[what];
    }

    int strange() {
        for (int i = 0; i < sightings.size(); i++) {
            if (maySure(sightings.get(i))[0] == 0) {
                return i;
            }
        }
        return NONE;
    }

    // ---- days, books

    private int passDay() {
        days++;
        Dressing d = best(-2);
        if (d == null) {
            return 0;
        }
        for (int look : d.looks) {
            for (int p : looks().get(look)) {
                parts.get(p).worn++;
            }
        }
        for (Part p : parts) {
            int out = p.worn / 10;
            p.worn %= 10;
            p.width = Math.max(0, p.width - out);
        }
        spent += d.price;
        return d.price;
    }

    int day(int n) {
        if (n < 1 || n > 9) {
            return OUTSIDE;
        }
        int sum = 0;
        for (int k = 0; k < n; k++) {
            sum += passDay();
        }
        return sum;
    }

    int drift(int n) {
        if (n < 1 || n > 9) {
            return OUTSIDE;
        }
        int sum = 0;
        for (int k = 0; k < n; k++) {
            for (Part p : parts) {
                seed = (int) ((seed * 1103515245L + 12345L) % 2147483648L);
                int drawn = seed / 65536 % 4;
                p.price += drawn == 0 && p.price < 99 ? 1 : drawn == 1 && p.price > 0 ? -1 : 0;
            }
            sum += passDay();
        }
        return sum;
    }

    int write(int hour, int p) {
        if (p < 0 || p >= parts.size()) {
            return UNKNOWN;
        }
        if (hour < 0 || hour > 11) {
            return OUTSIDE;
        }
        if (book.size() == 40) {
            return FULL;
        }
        book.add(new Pair(hour, p));
        return book.size();
    }

    int tear() {
        int both = book.size() + sightings.size();
        book.clear();
        sightings.clear();
        return both;
    }

    int judge() {
        for (int i = 0; i < book.size(); i++) {
            Pair x = book.get(i);
            List<Pair> ahead = book.subList(0, i);
            boolean wrong = !isFree(x.value, x.hour, -2) || ahead.contains(x);
            if (law == 1) {
                wrong |= ahead.contains(new Pair(x.hour - 1, x.value)) || ahead.contains(new Pair(x.hour + 1, x.value));
            }
            if (wrong) {
                return i;
            }
        }
        return NONE;
    }

    int seed(int v) {
        if (v < 0) {
            return OUTSIDE;
        }
        int was = seed;
        seed = v;
        return was;
    }

    int keep(int i) {
        if (i != 0 && i != 1) {
            return UNKNOWN;
        }
        images[i] = new Image();
        images[i].parts = copies(parts);
        images[i].spent = spent;
        images[i].law = law;
        images[i].days = days;
        images[i].seed = seed;
        return 1;
    }

    int goBack(int i) {
        if (i != 0 && i != 1) {
            return UNKNOWN;
        }
        if (images[i] == null) {
            return NOT;
        }
        parts = copies(images[i].parts);
        spent = images[i].spent;
        law = images[i].law;
        days = images[i].days;
        seed = images[i].seed;
        return 1;
    }
}
