/**
 * Actors of a town without masks rent brows, eyes and mouths by the hour: which looks there are,
 * the cheapest ones for the scenes of a day, what each landlord has of it, and how parts wear out.
 *
 * <p>Every row is made with the object and used again: no call makes an object or an array.
 */
public final class RentedLooks {
    public static final int NONE = -1, UNKNOWN = -1000000001, OUTSIDE = -1000000002, NOT = -1000000003, FULL = -1000000004;

    private static final int MOST_BYTES = 400;
    private static final int MOST_PARTS = 10;
    private static final int MOST_CLASHES = 15;
    private static final int MOST_SCENES = 8;
    private static final int MOST_SIGHTINGS = 20;
    private static final int MOST_ENTRIES = 40;
    private static final int LANDLORDS = 4;
    private static final int HOURS = 12;
    private static final int IMAGES = 2;
    private static final int MOST_WIDTH = 9;
    private static final int MOST_PRICE = 99;
    private static final int MOST_LOOK_WIDTH = 27;
    private static final int MOST_RAISE = 20;
    private static final int MOST_DAYS = 9;
    private static final int MOST_SPENT = 999999999;
    private static final int HOURS_TO_WEAR_OUT = 10;

    private final Text theText;
    private final Reader reader;
    private final Town theTown;
    private final Town toldTown;
    private final State state;
    private final State firstImage;
    private final State secondImage;
    private final boolean[] isKept;
    private final Looks looks;
    private final Dresser dresser;
    private final Sightings sightings;
    private final Book theBook;
    private final int[] raisedPrices;
    private int faultPlace;

    public RentedLooks() {
        theText = new Text();
        theTown = new Town();
        toldTown = new Town();
        reader = new Reader(theText, toldTown);
        state = new State();
        firstImage = new State();
        secondImage = new State();
        isKept = new boolean[IMAGES];
        looks = new Looks(theTown, state);
        dresser = new Dresser(theTown, looks);
        sightings = new Sightings(theTown, looks);
        theBook = new Book(theTown);
        raisedPrices = new int[MOST_PARTS];
        faultPlace = NONE;
    }

    // ---- the town

    public int feed(int n, long bytes) {
        if (n < 1 || n > 8) {
            return OUTSIDE;
        }
        if (theText.length + n > MOST_BYTES) {
            return FULL;
        }
        for (int k = n - 1; k >= 0; k--) {
            theText.add((int) (bytes >>> (8 * k)) & 255);
        }
        return theText.length;
    }

    public int town() {
        int faultNumber = reader.readTown();
        faultPlace = reader.place;
        theText.length = 0;
        if (faultNumber != 0) {
            return -10 - faultNumber;
        }
        theTown.copyFrom(toldTown);
        state.beginIn(theTown);
        looks.build();
        sightings.count = 0;
        theBook.count = 0;
        isKept[0] = false;
        isKept[1] = false;
        return theTown.parts;
    }

    public int fault() {
        return faultPlace;
    }

    public int told(int what) {
        switch (what) {
            case 0: return theTown.parts;
            case 1: return theTown.scenes;
            case 2: return theTown.clashes;
            case 3: return theText.length;
            case 4: return state.lawNow;
            case 5: return state.spent;
            case 6: return state.days;
            case 7: return sightings.count;
            case 8: return theBook.count;
            case 9: return looks.count;
            case 10: return looks.widthsIf(NONE, 0);
            default: return OUTSIDE;
        }
    }

    public int part(int p, int what) {
        if (!theTown.hasPart(p)) {
            return UNKNOWN;
        }
        switch (what) {
            case 0: return theTown.kind[p];
            case 1: return theTown.landlord[p];
            case 2: return state.widths[p];
            case 3: return state.prices[p];
            case 4: return theTown.from[p];
            case 5: return theTown.to[p];
            case 6: return theTown.clashing[p];
            case 7: return state.worn[p];
            default: return OUTSIDE;
        }
    }

    public int scene(int s, int what) {
        if (!theTown.hasScene(s)) {
            return UNKNOWN;
        }
        switch (what) {
            case 0: return theTown.hour[s];
            case 1: return theTown.low[s];
            case 2: return theTown.high[s];
            default: return OUTSIDE;
        }
    }

    public int look(int i, int what) {
        if (what < 0 || what > 2) {
            return OUTSIDE;
        }
        if (i < 0 || i >= looks.count) {
            return NONE;
        }
        return what == 0 ? looks.partsOf(i) : what == 1 ? looks.widthOf(i) : looks.priceOf(i);
    }

    // ---- dressing

    public int law(int v) {
        if (v < 0 || v > 1) {
            return OUTSIDE;
        }
        int was = state.lawNow;
        state.lawNow = v;
        return was;
    }

    public int price(int p, int v) {
        if (!theTown.hasPart(p)) {
            return UNKNOWN;
        }
        if (v < 0 || v > MOST_PRICE) {
            return OUTSIDE;
        }
        int was = state.prices[p];
        state.prices[p] = v;
        return was;
    }

    public int width(int p, int v) {
        if (!theTown.hasPart(p)) {
            return UNKNOWN;
        }
        if (v < 0 || v > MOST_WIDTH) {
            return OUTSIDE;
        }
        int was = state.widths[p];
        state.widths[p] = v;
        return was;
    }

    public int cheapest(int s, int what) {
        if (!theTown.hasScene(s)) {
            return UNKNOWN;
        }
        if (what < 0 || what > 1) {
            return OUTSIDE;
        }
        int best = looks.cheapestFor(s);
        if (best == NONE) {
            return NONE;
        }
        return what == 0 ? looks.partsOf(best) : looks.priceOf(best);
    }

    public int dressing(int s) {
        if (s != NONE && !theTown.hasScene(s)) {
            return UNKNOWN;
        }
        dressBest(0);
        if (s == NONE || dresser.total == NONE) {
            return dresser.total;
        }
        return looks.partsOf(dresser.lookOf[s]);
    }

    public int rent(int l) {
        if (!isLandlord(l)) {
            return OUTSIDE;
        }
        dressBest(0);
        return dresser.priceOfWorn(theTown.ownedBy(l), state.prices);
    }

    public int without(int l) {
        if (!isLandlord(l)) {
            return OUTSIDE;
        }
        dressBest(0);
        int now = dresser.total;
        dressBest(theTown.ownedBy(l));
        int then = dresser.total;
        return now == NONE || then == NONE ? NONE : then - now;
    }

    public int raise(int l, int what) {
        if (!isLandlord(l) || what < 0 || what > 1) {
            return OUTSIDE;
        }
        int owned = theTown.ownedBy(l);
        int bestRaise = 0;
        int mostRent = NONE;
        // What can be worn does not hang on the prices: it is gathered once for all raises.
        dresser.gather(0);
        for (int more = 0; more <= MOST_RAISE; more++) {
            state.raisePrices(owned, more, raisedPrices);
            dresser.choose(raisedPrices, state.lawNow);
            int rentThen = dresser.priceOfWorn(owned, raisedPrices);
            if (rentThen > mostRent) {
                mostRent = rentThen;
                bestRaise = more;
            }
        }
        return what == 0 ? bestRaise : mostRent;
    }

    private void dressBest(int neverFree) {
        dresser.gather(neverFree);
        dresser.choose(state.prices, state.lawNow);
    }

    // ---- looks

    public int grow(int what) {
        if (what < 0 || what > 2) {
            return OUTSIDE;
        }
        int bestPart = NONE;
        int bestWidth = NONE;
        int most = NONE;
        for (int p = 0; p < theTown.parts; p++) {
            for (int w = 0; w <= MOST_WIDTH; w++) {
                int many = Integer.bitCount(looks.widthsIf(p, w));
                if (many > most) {
                    most = many;
                    bestPart = p;
                    bestWidth = w;
                }
            }
        }
        return what == 0 ? bestPart : what == 1 ? bestWidth : most;
    }

    public int wedding(int hour, int what) {
        if (!isHour(hour) || what < 0 || what > 1) {
            return OUTSIDE;
        }
        int bestPrice = NONE;
        int bestParts = NONE;
        int free = theTown.freeIn(hour);
        for (int i = 0; i < looks.count; i++) {
            for (int j = i + 1; j < looks.count; j++) {
                if (looks.mayMarry(i, j, free)) {
                    int both = looks.priceOf(i) + looks.priceOf(j);
                    if (bestPrice == NONE || both < bestPrice) {
                        bestPrice = both;
                        bestParts = looks.partsOf(i) | looks.partsOf(j);
                    }
                }
            }
        }
        return what == 0 ? bestPrice : bestParts;
    }

    public int see(int hour, int wide) {
        if (!isHour(hour) || wide < 0 || wide > MOST_LOOK_WIDTH) {
            return OUTSIDE;
        }
        return sightings.add(hour, wide) ? sightings.count : FULL;
    }

    public int seen(int i, int what) {
        if (what < 0 || what > 1) {
            return OUTSIDE;
        }
        if (i < 0 || i >= sightings.count) {
            return NONE;
        }
        return what == 0 ? sightings.mayBeWorn(i) : sightings.surelyWorn(i);
    }

    public int strange() {
        return sightings.firstStrange();
    }

    // ---- days, books

    public int day(int n) {
        if (n < 1 || n > MOST_DAYS) {
            return OUTSIDE;
        }
        int spentNow = 0;
        for (int d = 0; d < n; d++) {
            spentNow += passDay();
        }
        return spentNow;
    }

    public int drift(int n) {
        if (n < 1 || n > MOST_DAYS) {
            return OUTSIDE;
        }
        int spentNow = 0;
        for (int d = 0; d < n; d++) {
            state.drawPrices(theTown.parts);
            spentNow += passDay();
        }
        return spentNow;
    }

    private int passDay() {
        dressBest(0);
        state.days++;
        if (dresser.total == NONE) {
            return 0;
        }
        for (int h = 0; h < HOURS; h++) {
            state.wearHour(dresser.worn[h]);
        }
        state.wearOut();
        state.spent = Math.min(MOST_SPENT, state.spent + dresser.total);
        return dresser.total;
    }

    public int write(int hour, int p) {
        if (!theTown.hasPart(p)) {
            return UNKNOWN;
        }
        if (!isHour(hour)) {
            return OUTSIDE;
        }
        return theBook.add(hour, p) ? theBook.count : FULL;
    }

    public int tear() {
        int both = theBook.count + sightings.count;
        theBook.count = 0;
        sightings.count = 0;
        return both;
    }

    public int judge() {
        return theBook.firstWrong(state.lawNow);
    }

    public int seed(int v) {
        if (v < 0) {
            return OUTSIDE;
        }
        int was = state.seedNow;
        state.seedNow = v;
        return was;
    }

    public int keep(int i) {
        if (i < 0 || i >= IMAGES) {
            return UNKNOWN;
        }
        imageAt(i).copyFrom(state);
        isKept[i] = true;
        return 1;
    }

    public int goBack(int i) {
        if (i < 0 || i >= IMAGES) {
            return UNKNOWN;
        }
        if (!isKept[i]) {
            return NOT;
        }
        state.copyFrom(imageAt(i));
        return 1;
    }

    private State imageAt(int i) {
        return i == 0 ? firstImage : secondImage;
    }

    private static boolean isLandlord(int l) {
        return l >= 0 && l < LANDLORDS;
    }

    private static boolean isHour(int hour) {
        return hour >= 0 && hour < HOURS;
    }

    private static boolean has(int set, int k) {
        return (set >> k & 1) != 0;
    }

    private static int sumOver(int set, int[] row) {
        int sum = 0;
        for (int p = 0; p < row.length; p++) {
            if (has(set, p)) {
                sum += row[p];
            }
        }
        return sum;
    }

    private static void copyRow(int[] source, int[] target) {
        int most = Math.min(source.length, target.length);
        for (int k = 0; k < most; k++) {
            target[k] = source[k];
        }
    }

    /** THE TEXT, byte by byte. */
    private static final class Text {
        private static final int END = -1;

        private final int[] bytes = new int[MOST_BYTES];
        private int length;

        private void add(int oneByte) {
            if (length < MOST_BYTES) {
                bytes[length] = oneByte;
                length++;
            }
        }

        private int byteAt(int i) {
            return i >= 0 && i < length ? bytes[i] : END;
        }

        private boolean isLetter(int i) {
            int c = byteAt(i);
            return c >= 'a' && c <= 'z';
        }

        private boolean isFigure(int i) {
            int c = byteAt(i);
            return c >= '0' && c <= '9';
        }

        private boolean stands(String word, int start, int end) {
            if (word.length() != end - start) {
                return false;
            }
            for (int k = 0; k < word.length(); k++) {
                if (byteAt(start + k) != word.charAt(k)) {
                    return false;
                }
            }
            return true;
        }
    }

    /** What a text tells of PARTS, of what CLASHES, and of SCENES. */
    private static final class Town {
        private final int[] kind = new int[MOST_PARTS];
        private final int[] landlord = new int[MOST_PARTS];
        private final int[] toldWidth = new int[MOST_PARTS];
        private final int[] toldPrice = new int[MOST_PARTS];
        private final int[] from = new int[MOST_PARTS];
        private final int[] to = new int[MOST_PARTS];
        private final int[] clashing = new int[MOST_PARTS];
        private final int[] hour = new int[MOST_SCENES];
        private final int[] low = new int[MOST_SCENES];
        private final int[] high = new int[MOST_SCENES];
        private int parts;
        private int clashes;
        private int scenes;

        private boolean hasPart(int p) {
            return p >= 0 && p < parts;
        }

        private boolean isOfKind(int p, int which) {
            return hasPart(p) && kind[p] == which;
        }

        private boolean hasScene(int s) {
            return s >= 0 && s < scenes;
        }

        private void clear() {
            parts = 0;
            clashes = 0;
            scenes = 0;
        }

        private void addPart(int ofKind, int ofLandlord, int wide, int dear) {
            if (parts < MOST_PARTS) {
                kind[parts] = ofKind;
                landlord[parts] = ofLandlord;
                toldWidth[parts] = wide;
                toldPrice[parts] = dear;
                clashing[parts] = 0;
                parts++;
            }
        }

        private void setHoursOfLatest(int first, int last) {
            if (hasPart(parts - 1)) {
                from[parts - 1] = first;
                to[parts - 1] = last;
            }
        }

        private boolean isClash(int x, int y) {
            return hasPart(x) && has(clashing[x], y);
        }

        private void addClash(int x, int y) {
            if (hasPart(x) && hasPart(y)) {
                clashing[x] |= 1 << y;
                clashing[y] |= 1 << x;
                clashes++;
            }
        }

        private void addScene(int inHour, int least, int most) {
            if (scenes < MOST_SCENES) {
                hour[scenes] = inHour;
                low[scenes] = least;
                high[scenes] = most;
                scenes++;
            }
        }

        private void copyFrom(Town other) {
            copyRow(other.kind, kind);
            copyRow(other.landlord, landlord);
            copyRow(other.toldWidth, toldWidth);
            copyRow(other.toldPrice, toldPrice);
            copyRow(other.from, from);
            copyRow(other.to, to);
            copyRow(other.clashing, clashing);
            copyRow(other.hour, hour);
            copyRow(other.low, low);
            copyRow(other.high, high);
            parts = other.parts;
            clashes = other.clashes;
            scenes = other.scenes;
        }

        private boolean isFree(int p, int inHour) {
            return hasPart(p) && from[p] <= inHour && inHour <= to[p];
        }

        private int freeIn(int inHour) {
            int set = 0;
            for (int p = 0; p < parts; p++) {
                if (isFree(p, inHour)) {
                    set |= 1 << p;
                }
            }
            return set;
        }

        private int ownedBy(int l) {
            int set = 0;
            for (int p = 0; p < parts; p++) {
                if (landlord[p] == l) {
                    set |= 1 << p;
                }
            }
            return set;
        }
    }

    /** Reads a town from THE TEXT; the first FAULT that it meets is the one at the first byte. */
    private static final class Reader {
        private static final int CANNOT_STAND = 1;
        private static final int BAD_NUMBER = 2;
        private static final int TOO_MANY = 3;
        private static final int WRONG_PAIR = 4;
        private static final int BLANK = 32;
        private static final int MOST_FIGURES = 3;

        private final Text text;
        private final Town town;
        private int at;
        private int start;
        private int faultNumber;
        private int place;

        private Reader(Text text, Town town) {
            this.text = text;
            this.town = town;
            this.place = NONE;
        }

        /** The FAULT's number, 0 without one. */
        private int readTown() {
            town.clear();
            at = 0;
            faultNumber = 0;
            place = NONE;
            skipBlanks();
            for (int n = 0; n < MOST_BYTES && at < text.length && faultNumber == 0; n++) {
                readWord();
                if (text.stands("part", start, at)) {
                    readPart();
                } else if (text.stands("clash", start, at)) {
                    readClash();
                } else if (text.stands("scene", start, at)) {
                    readScene();
                } else {
                    fail(CANNOT_STAND, start);
                }
                skipBlanks();
            }
            return faultNumber;
        }

        private void readPart() {
            if (town.parts >= MOST_PARTS) {
                fail(TOO_MANY, start);
            }
            int kind = readKind();
            int landlord = readNumber(LANDLORDS - 1);
            int wide = readNumber(MOST_WIDTH);
            int dear = readNumber(MOST_PRICE);
            int first = readNumber(HOURS - 1);
            int last = readNumber(HOURS - 1);
            if (last < first) {
                fail(WRONG_PAIR, start);
            }
            readEnd();
            if (faultNumber == 0) {
                town.addPart(kind, landlord, wide, dear);
                town.setHoursOfLatest(first, last);
            }
        }

        private void readClash() {
            if (town.clashes >= MOST_CLASHES) {
                fail(TOO_MANY, start);
            }
            int x = readNumber(town.parts - 1);
            int y = readNumber(town.parts - 1);
            if (x == y || town.isClash(x, y)) {
                fail(WRONG_PAIR, start);
            }
            readEnd();
            if (faultNumber == 0) {
                town.addClash(x, y);
            }
        }

        private void readScene() {
            if (town.scenes >= MOST_SCENES) {
                fail(TOO_MANY, start);
            }
            int inHour = readNumber(HOURS - 1);
            int least = readNumber(MOST_LOOK_WIDTH);
            int most = readNumber(MOST_LOOK_WIDTH);
            if (most < least) {
                fail(WRONG_PAIR, start);
            }
            readEnd();
            if (faultNumber == 0) {
                town.addScene(inHour, least, most);
            }
        }

        /** Leaves start at the word's first letter, at behind its last; an empty word stands nowhere. */
        private void readWord() {
            skipBlanks();
            start = at;
            while (at < text.length && text.isLetter(at)) {
                at++;
            }
        }

        private int readKind() {
            if (faultNumber != 0) {
                return 0;
            }
            readWord();
            if (text.stands("brow", start, at)) {
                return 0;
            }
            if (text.stands("eyes", start, at)) {
                return 1;
            }
            if (text.stands("mouth", start, at)) {
                return 2;
            }
            fail(CANNOT_STAND, start);
            return 0;
        }

        private int readNumber(int most) {
            if (faultNumber != 0) {
                return 0;
            }
            skipBlanks();
            start = at;
            int value = 0;
            while (at < text.length && text.isFigure(at)) {
                // Behind the third figure the value is of no use, and it might run over.
                if (at - start < MOST_FIGURES) {
                    value = value * 10 + text.byteAt(at) - '0';
                }
                at++;
            }
            if (at == start) {
                fail(CANNOT_STAND, start);
            } else if (at - start > MOST_FIGURES || value > most) {
                fail(BAD_NUMBER, start);
            }
            return value;
        }

        private void readEnd() {
            if (faultNumber != 0) {
                return;
            }
            skipBlanks();
            if (text.byteAt(at) == ';') {
                at++;
            } else {
                fail(CANNOT_STAND, at);
            }
        }

        private void skipBlanks() {
            while (at < text.length && text.byteAt(at) == BLANK) {
                at++;
            }
        }

        private void fail(int number, int where) {
            if (faultNumber == 0) {
                faultNumber = number;
                place = where;
            }
        }
    }

    /** What calls and days change: as it is now, or as an IMAGE keeps it. */
    private static final class State {
        private final int[] widths = new int[MOST_PARTS];
        private final int[] prices = new int[MOST_PARTS];
        private final int[] worn = new int[MOST_PARTS];
        private int spent;
        private int days;
        private int lawNow;
        private int seedNow;

        private void beginIn(Town town) {
            copyRow(town.toldWidth, widths);
            copyRow(town.toldPrice, prices);
            for (int p = 0; p < MOST_PARTS; p++) {
                worn[p] = 0;
            }
            spent = 0;
            days = 0;
        }

        private void copyFrom(State other) {
            copyRow(other.widths, widths);
            copyRow(other.prices, prices);
            copyRow(other.worn, worn);
            spent = other.spent;
            days = other.days;
            lawNow = other.lawNow;
            seedNow = other.seedNow;
        }

        private void raisePrices(int set, int more, int[] raised) {
            int most = Math.min(raised.length, MOST_PARTS);
            for (int p = 0; p < most; p++) {
                raised[p] = has(set, p) ? Math.min(MOST_PRICE, prices[p] + more) : prices[p];
            }
        }

        /** A DRAW of 4. */
        private int drawOfFour() {
            seedNow = (int) ((seedNow * 1103515245L + 12345L) & 2147483647L);
            return seedNow / 65536 % 4;
        }

        private void drawPrices(int parts) {
            int most = Math.min(parts, MOST_PARTS);
            for (int p = 0; p < most; p++) {
                int drawn = drawOfFour();
                if (drawn == 0) {
                    prices[p] = Math.min(MOST_PRICE, prices[p] + 1);
                } else if (drawn == 1) {
                    prices[p] = Math.max(0, prices[p] - 1);
                }
            }
        }

        private void wearHour(int set) {
            for (int p = 0; p < MOST_PARTS; p++) {
                if (has(set, p)) {
                    worn[p]++;
                }
            }
        }

        private void wearOut() {
            for (int p = 0; p < MOST_PARTS; p++) {
                while (worn[p] >= HOURS_TO_WEAR_OUT) {
                    worn[p] -= HOURS_TO_WEAR_OUT;
                    widths[p] = Math.max(0, widths[p] - 1);
                }
            }
        }
    }

    /** The LOOKS of the town, in order. */
    private static final class Looks {
        // 3 brows, 3 eyes and 4 mouths: no 10 PARTS make more.
        private static final int MOST_LOOKS = 36;

        private final Town town;
        private final State state;
        private final int[] brows = new int[MOST_LOOKS];
        private final int[] eyes = new int[MOST_LOOKS];
        private final int[] mouths = new int[MOST_LOOKS];
        private int count;

        private Looks(Town town, State state) {
            this.town = town;
            this.state = state;
        }

        private void build() {
            count = 0;
            for (int b = 0; b < town.parts; b++) {
                for (int e = 0; e < town.parts; e++) {
                    for (int m = 0; m < town.parts; m++) {
                        if (isLook(b, e, m) && count < MOST_LOOKS) {
                            brows[count] = b;
                            eyes[count] = e;
                            mouths[count] = m;
                            count++;
                        }
                    }
                }
            }
        }

        private boolean isLook(int b, int e, int m) {
            return town.isOfKind(b, 0) && town.isOfKind(e, 1) && town.isOfKind(m, 2)
                    && !town.isClash(b, e) && !town.isClash(b, m) && !town.isClash(e, m);
        }

        private int partsOf(int i) {
            return i >= 0 && i < count ? 1 << brows[i] | 1 << eyes[i] | 1 << mouths[i] : 0;
        }

        private int widthOf(int i) {
            return sumOf(i, state.widths);
        }

        private int priceOf(int i) {
            return sumOf(i, state.prices);
        }

        /** What a row of all PARTS has for the three of a LOOK. */
        private int sumOf(int i, int[] row) {
            if (i < 0 || i >= count || row.length < MOST_PARTS) {
                return 0;
            }
            return row[brows[i]] + row[eyes[i]] + row[mouths[i]];
        }

        /** The WIDTHS of all LOOKS, were the PART p so wide; as they are for NONE. */
        private int widthsIf(int p, int wide) {
            int set = 0;
            for (int i = 0; i < count; i++) {
                int w = widthOf(i);
                if (town.hasPart(p) && has(partsOf(i), p)) {
                    w += wide - state.widths[p];
                }
                set |= 1 << w;
            }
            return set;
        }

        private boolean isFor(int i, int s, int free) {
            if (!town.hasScene(s) || (partsOf(i) & ~free) != 0) {
                return false;
            }
            int w = sumOf(i, state.widths);
            return town.low[s] <= w && w <= town.high[s];
        }

        private int cheapestFor(int s) {
            if (!town.hasScene(s)) {
                return NONE;
            }
            int free = town.freeIn(town.hour[s]);
            int best = NONE;
            for (int i = 0; i < count; i++) {
                if (isFor(i, s, free) && (best == NONE || priceOf(i) < priceOf(best))) {
                    best = i;
                }
            }
            return best;
        }

        private boolean mayMarry(int i, int j, int free) {
            int one = partsOf(i);
            int other = partsOf(j);
            return ((one | other) & ~free) == 0 && (one & other) == 0 && widthOf(i) == widthOf(j);
        }
    }

    /**
     * Finds the BEST DRESSING. Its PRICE and LAW 1 hang on the SETS worn hour by hour alone: so each
     * hour's SETS are gathered with the first LOOKS that make them, and then one is chosen for each.
     */
    private static final class Dresser {
        // 10 PARTS make 54 SETS of two LOOKS at the most, fewer of one or three, none of four.
        private static final int MOST_SETS = 64;
        // A code holds an hour's LOOKS as the figures of a number: the lesser one has the first LOOKS.
        private static final int CODE_BASE = 64;
        private static final int SCRATCH = HOURS;
        private static final int NO_WAY = 1000000000;

        private final Town town;
        private final Looks looks;
        private final int[] setCount = new int[HOURS + 1];
        private final int[][] sets = new int[HOURS + 1][MOST_SETS];
        private final int[][] codes = new int[HOURS + 1][MOST_SETS];
        private final int[][] costs = new int[HOURS][MOST_SETS];
        private final int[] worn = new int[HOURS];
        private final int[] lookOf = new int[MOST_SCENES];
        private int total;

        private Dresser(Town town, Looks looks) {
            this.town = town;
            this.looks = looks;
        }

        /** For each hour the SETS that can be worn in it, the lesser first. */
        private void gather(int neverFree) {
            for (int h = 0; h < HOURS; h++) {
                setCount[h] = 0;
                addSet(h, 0, 0);
            }
            for (int s = 0; s < town.scenes; s++) {
                dressOneMore(town.hour[s], s, town.freeIn(town.hour[s]) & ~neverFree);
            }
        }

        /** Each SET of the hour grows by each LOOK for one SCENE more. */
        private void dressOneMore(int h, int s, int free) {
            if (h < 0 || h >= HOURS) {
                return;
            }
            copyRow(sets[h], sets[SCRATCH]);
            copyRow(codes[h], codes[SCRATCH]);
            setCount[SCRATCH] = setCount[h];
            setCount[h] = 0;
            for (int i = 0; i < looks.count; i++) {
                if (looks.isFor(i, s, free)) {
                    int parts = looks.partsOf(i);
                    for (int k = 0; k < setCount[SCRATCH]; k++) {
                        int set = sets[SCRATCH][k];
                        if ((set & parts) == 0) {
                            addSet(h, set | parts, codes[SCRATCH][k] * CODE_BASE + i);
                        }
                    }
                }
            }
        }

        private void addSet(int h, int set, int code) {
            int[] row = sets[h];
            int many = setCount[h];
            int at = many;
            while (at > 0 && row[at - 1] >= set) {
                at--;
            }
            if (at < many && row[at] == set) {
                codes[h][at] = Math.min(codes[h][at], code);
                return;
            }
            if (many >= MOST_SETS) {
                return;
            }
            for (int k = many; k > at; k--) {
                row[k] = row[k - 1];
                codes[h][k] = codes[h][k - 1];
            }
            row[at] = set;
            codes[h][at] = code;
            setCount[h] = many + 1;
        }

        /** The BEST DRESSING of what was gathered: total, what is worn, the SCENES' LOOKS. */
        private void choose(int[] prices, int law) {
            for (int h = HOURS - 1; h >= 0; h--) {
                for (int k = 0; k < setCount[h]; k++) {
                    int behind = cheapestAfter(h, sets[h][k], law);
                    costs[h][k] = behind == NO_WAY ? NO_WAY : behind + sumOver(sets[h][k], prices);
                }
            }
            total = cheapestAfter(-1, 0, law);
            int ahead = 0;
            for (int h = 0; h < HOURS; h++) {
                int k = total == NO_WAY ? NONE : firstCheapest(h, ahead, law);
                ahead = k == NONE ? 0 : sets[h][k];
                worn[h] = ahead;
                giveLooks(h, k == NONE ? 0 : codes[h][k]);
            }
            if (total == NO_WAY) {
                total = NONE;
            }
        }

        /** The least PRICE of all hours behind one in which a SET is worn. */
        private int cheapestAfter(int h, int set, int law) {
            if (h + 1 >= HOURS) {
                return 0;
            }
            int k = firstCheapest(h + 1, set, law);
            return k == NONE ? NO_WAY : costs[h + 1][k];
        }

        /** The lesser SET comes first, so the first of like ones is the least. */
        private int firstCheapest(int h, int ahead, int law) {
            int best = NONE;
            int least = NO_WAY;
            for (int k = 0; k < setCount[h]; k++) {
                if (costs[h][k] < least && (law == 0 || (sets[h][k] & ahead) == 0)) {
                    least = costs[h][k];
                    best = k;
                }
            }
            return best;
        }

        private void giveLooks(int h, int code) {
            int rest = code;
            for (int s = town.scenes - 1; s >= 0; s--) {
                if (town.hour[s] == h) {
                    lookOf[s] = rest % CODE_BASE;
                    rest /= CODE_BASE;
                }
            }
        }

        private int priceOfWorn(int set, int[] prices) {
            int sum = 0;
            for (int h = 0; h < HOURS; h++) {
                sum += sumOver(worn[h] & set, prices);
            }
            return sum;
        }
    }

    /** What was SEEN: in an hour somebody looked so wide. */
    private static final class Sightings {
        private final Town town;
        private final Looks looks;
        private final int[] hours = new int[MOST_SIGHTINGS];
        private final int[] widths = new int[MOST_SIGHTINGS];
        private int count;

        private Sightings(Town town, Looks looks) {
            this.town = town;
            this.looks = looks;
        }

        private boolean add(int hour, int wide) {
            if (count >= MOST_SIGHTINGS) {
                return false;
            }
            hours[count] = hour;
            widths[count] = wide;
            count++;
            return true;
        }

        private boolean mayBe(int look, int i, int free) {
            return (looks.partsOf(look) & ~free) == 0 && looks.widthOf(look) == widths[i];
        }

        private int mayBeWorn(int i) {
            int free = town.freeIn(hours[i]);
            int set = 0;
            for (int look = 0; look < looks.count; look++) {
                if (mayBe(look, i, free)) {
                    set |= looks.partsOf(look);
                }
            }
            return set;
        }

        private int surelyWorn(int i) {
            int free = town.freeIn(hours[i]);
            // Beginning with what may be worn makes it 0 where there is no LOOK.
            int set = mayBeWorn(i);
            for (int look = 0; look < looks.count; look++) {
                if (mayBe(look, i, free)) {
                    set &= looks.partsOf(look);
                }
            }
            return set;
        }

        private int firstStrange() {
            for (int i = 0; i < count; i++) {
                if (mayBeWorn(i) == 0) {
                    return i;
                }
            }
            return NONE;
        }
    }

    /** THE BOOK: which PART was worn in which hour. */
    private static final class Book {
        private final Town town;
        private final int[] hours = new int[MOST_ENTRIES];
        private final int[] parts = new int[MOST_ENTRIES];
        private int count;

        private Book(Town town) {
            this.town = town;
        }

        private boolean add(int hour, int p) {
            if (count >= MOST_ENTRIES) {
                return false;
            }
            hours[count] = hour;
            parts[count] = p;
            count++;
            return true;
        }

        private int firstWrong(int law) {
            for (int i = 0; i < count; i++) {
                if (!town.isFree(parts[i], hours[i]) || wasToldAhead(i, law)) {
                    return i;
                }
            }
            return NONE;
        }

        /** LAW 1 lets a PART rest in the hours around the one in which it was worn. */
        private boolean wasToldAhead(int i, int law) {
            for (int j = 0; j < i; j++) {
                if (parts[j] == parts[i] && Math.abs(hours[j] - hours[i]) <= law) {
                    return true;
                }
            }
            return false;
        }
    }
}
