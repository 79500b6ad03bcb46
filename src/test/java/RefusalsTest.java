import java.util.ArrayList;
import java.util.List;

/**
 * "What is refused changes nothing": each refused call is made on one of two objects that came to be in
 * the same way, and then both must answer alike: as they are, from either IMAGE, and in the next town.
 */
public final class RefusalsTest {
    private static final int NONE = -1, UNKNOWN = -1000000001, OUTSIDE = -1000000002, NOT = -1000000003, FULL = -1000000004;
    private static final int LOW = Integer.MIN_VALUE, HIGH = Integer.MAX_VALUE;
    private static final long LETTERS = 0x7061727470617274L;

    private static final String TOWN = "part brow 0 3 10 0 11;part eyes 0 2 5 0 5;part mouth 1 4 7 0 11;"
        + "part brow 1 1 4 2 8;part eyes 2 5 6 0 11;part mouth 2 0 3 0 11;clash 0 5;"
        + "scene 0 5 9;scene 3 0 27;scene 3 8 12;scene 4 0 27;";

    private static final Check CHECK = new Check("RefusalsTest");

    private interface Call {
        int on(RentedLooks x);
    }

    private interface Making {
        RentedLooks make();
    }

    private record Refused(String name, int due, Call call) { }

    public static void main(String[] args) {
        changesNothing("a new object", RefusalsTest::aNewObject, 0, 0, false, refusedWithoutTown());
        changesNothing("a busy town", RefusalsTest::aBusyTown, 6, 4, false, refusedInTown(6, 4));
        changesNothing("a full town", RefusalsTest::aFullTown, 6, 4, true, refusedInTown(6, 4));
        theFirstOfSeveral();
        CHECK.close();
    }

    private static RentedLooks aNewObject() {
        return new RentedLooks();
    }

    /** IMAGE 1 alone is kept; THE TEXT has begun; the latest town() had a FAULT. */
    private static RentedLooks aBusyTown() {
        RentedLooks x = Check.inTown(TOWN);
        x.seed(77);
        x.drift(2);
        x.see(3, 9);
        x.see(0, 20);
        x.keep(1);
        x.day(1);
        x.price(0, 33);
        x.width(5, 2);
        x.see(5, 7);
        x.write(3, 0);
        x.write(2, 3);
        x.law(1);
        x.write(4, 0);
        Check.town(x, "part brow 9");
        Check.feed(x, "scene 3 1 2;");
        return x;
    }

    /** THE TEXT, what was SEEN and THE BOOK are full, both IMAGES kept. */
    private static RentedLooks aFullTown() {
        RentedLooks x = Check.inTown(TOWN);
        x.keep(0);
        x.seed(5);
        x.drift(3);
        x.keep(1);
        for (int n = 0; n < 20; n++) {
            x.see(n % 12, n);
        }
        for (int n = 0; n < 40; n++) {
            x.write(2 + n % 3 * 2, n % 3 == 0 ? 3 : n % 6);
        }
        x.law(1);
        Check.feed(x, "part eyes 1 2 3 4 5;" + " ".repeat(380));
        return x;
    }

    private static List<Refused> refusedWithoutTown() {
        List<Refused> all = new ArrayList<>(refusedAnywhere());
        for (int p : new int[] {0, 1, -1, 9, 10, LOW, HIGH}) {
            all.add(new Refused("part(" + p + ", 0)", UNKNOWN, x -> x.part(p, 0)));
            all.add(new Refused("price(" + p + ", 1)", UNKNOWN, x -> x.price(p, 1)));
            all.add(new Refused("width(" + p + ", 1)", UNKNOWN, x -> x.width(p, 1)));
            all.add(new Refused("write(0, " + p + ")", UNKNOWN, x -> x.write(0, p)));
            all.add(new Refused("scene(" + p + ", 0)", UNKNOWN, x -> x.scene(p, 0)));
            all.add(new Refused("cheapest(" + p + ", 0)", UNKNOWN, x -> x.cheapest(p, 0)));
        }
        for (int s : new int[] {0, 7, -2, LOW, HIGH}) {
            all.add(new Refused("dressing(" + s + ")", UNKNOWN, x -> x.dressing(s)));
        }
        all.add(new Refused("goBack(0)", NOT, x -> x.goBack(0)));
        all.add(new Refused("goBack(1)", NOT, x -> x.goBack(1)));
        return all;
    }

    private static List<Refused> refusedInTown(int parts, int scenes) {
        List<Refused> all = new ArrayList<>(refusedAnywhere());
        for (int p : outOf(0, parts - 1)) {
            all.add(new Refused("part(" + p + ", 0)", UNKNOWN, x -> x.part(p, 0)));
            all.add(new Refused("price(" + p + ", 1)", UNKNOWN, x -> x.price(p, 1)));
            all.add(new Refused("width(" + p + ", 1)", UNKNOWN, x -> x.width(p, 1)));
            all.add(new Refused("write(0, " + p + ")", UNKNOWN, x -> x.write(0, p)));
        }
        for (int s : outOf(0, scenes - 1)) {
            all.add(new Refused("scene(" + s + ", 0)", UNKNOWN, x -> x.scene(s, 0)));
            all.add(new Refused("cheapest(" + s + ", 0)", UNKNOWN, x -> x.cheapest(s, 0)));
        }
        for (int s : outOf(NONE, scenes - 1)) {
            all.add(new Refused("dressing(" + s + ")", UNKNOWN, x -> x.dressing(s)));
        }
        for (int what : outOf(0, 7)) {
            all.add(new Refused("part(5, " + what + ")", OUTSIDE, x -> x.part(5, what)));
        }
        for (int what : outOf(0, 2)) {
            all.add(new Refused("scene(3, " + what + ")", OUTSIDE, x -> x.scene(3, what)));
        }
        for (int what : outOf(0, 1)) {
            all.add(new Refused("cheapest(3, " + what + ")", OUTSIDE, x -> x.cheapest(3, what)));
        }
        for (int v : outOf(0, 99)) {
            all.add(new Refused("price(5, " + v + ")", OUTSIDE, x -> x.price(5, v)));
        }
        for (int v : outOf(0, 9)) {
            all.add(new Refused("width(5, " + v + ")", OUTSIDE, x -> x.width(5, v)));
        }
        for (int h : outOf(0, 11)) {
            all.add(new Refused("write(" + h + ", 5)", OUTSIDE, x -> x.write(h, 5)));
        }
        return all;
    }

    /** What is out of its bounds whatever the town is. */
    private static List<Refused> refusedAnywhere() {
        List<Refused> all = new ArrayList<>();
        for (int n : outOf(1, 8)) {
            all.add(new Refused("feed(" + n + ", ..)", OUTSIDE, x -> x.feed(n, LETTERS)));
        }
        for (int what : outOf(0, 10)) {
            all.add(new Refused("told(" + what + ")", OUTSIDE, x -> x.told(what)));
        }
        for (int what : outOf(0, 2)) {
            all.add(new Refused("look(0, " + what + ")", OUTSIDE, x -> x.look(0, what)));
            all.add(new Refused("look(-1, " + what + ")", OUTSIDE, x -> x.look(-1, what)));
            all.add(new Refused("grow(" + what + ")", OUTSIDE, x -> x.grow(what)));
        }
        for (int v : outOf(0, 1)) {
            all.add(new Refused("law(" + v + ")", OUTSIDE, x -> x.law(v)));
            all.add(new Refused("raise(0, " + v + ")", OUTSIDE, x -> x.raise(0, v)));
            all.add(new Refused("wedding(3, " + v + ")", OUTSIDE, x -> x.wedding(3, v)));
            all.add(new Refused("seen(0, " + v + ")", OUTSIDE, x -> x.seen(0, v)));
            all.add(new Refused("seen(-1, " + v + ")", OUTSIDE, x -> x.seen(-1, v)));
            all.add(new Refused("keep(" + v + ")", UNKNOWN, x -> x.keep(v)));
            all.add(new Refused("goBack(" + v + ")", UNKNOWN, x -> x.goBack(v)));
        }
        for (int l : outOf(0, 3)) {
            all.add(new Refused("rent(" + l + ")", OUTSIDE, x -> x.rent(l)));
            all.add(new Refused("without(" + l + ")", OUTSIDE, x -> x.without(l)));
            all.add(new Refused("raise(" + l + ", 0)", OUTSIDE, x -> x.raise(l, 0)));
        }
        for (int h : outOf(0, 11)) {
            all.add(new Refused("wedding(" + h + ", 0)", OUTSIDE, x -> x.wedding(h, 0)));
            all.add(new Refused("see(" + h + ", 0)", OUTSIDE, x -> x.see(h, 0)));
        }
        for (int w : outOf(0, 27)) {
            all.add(new Refused("see(0, " + w + ")", OUTSIDE, x -> x.see(0, w)));
        }
        for (int n : outOf(1, 9)) {
            all.add(new Refused("day(" + n + ")", OUTSIDE, x -> x.day(n)));
            all.add(new Refused("drift(" + n + ")", OUTSIDE, x -> x.drift(n)));
        }
        for (int v : new int[] {-1, -2, LOW, LOW + 1}) {
            all.add(new Refused("seed(" + v + ")", OUTSIDE, x -> x.seed(v)));
        }
        return all;
    }

    /** The first that are out on either side, some that are their like by the lowest bits, the farthest. */
    private static int[] outOf(int least, int most) {
        return new int[] {least - 1, most + 1, least - 2, most + 2, least + 128, least + 256, least + 65536, LOW + least + 1,
            LOW, HIGH};
    }

    private static void changesNothing(String state, Making making, int parts, int scenes, boolean full, List<Refused> refused) {
        List<Refused> all = new ArrayList<>(refused);
        if (full) {
            for (int n = 1; n <= 8; n++) {
                int many = n;
                all.add(new Refused("feed(" + n + ", ..)", FULL, x -> x.feed(many, LETTERS)));
            }
            all.add(new Refused("see(0, 0)", FULL, x -> x.see(0, 0)));
            all.add(new Refused("see(11, 27)", FULL, x -> x.see(11, 27)));
            all.add(new Refused("write(0, 0)", FULL, x -> x.write(0, 0)));
            all.add(new Refused("write(11, 5)", FULL, x -> x.write(11, 5)));
        } else if (parts > 0) {
            all.add(new Refused("goBack(0)", NOT, x -> x.goBack(0)));
        }
        for (int view = 0; view < 4; view++) {
            int[] want = answers(seenFrom(view, making.make()));
            for (Refused r : all) {
                RentedLooks x = making.make();
                CHECK.due(r.name + " in " + state, r.call.on(x), r.due);
                same(r.name + " in " + state + " changed something, view " + view, answers(seenFrom(view, x)), want);
            }
        }
        RentedLooks x = making.make();
        CHECK.due("PARTS of " + state, x.told(0), parts);
        CHECK.due("SCENES of " + state, x.told(1), scenes);
        for (Refused r : all) {
            CHECK.due(r.name + " among others in " + state, r.call.on(x), r.due);
        }
        same("all refused calls in " + state, answers(x), answers(making.make()));
    }

    /** 0: as it is; 1, 2: back to IMAGE 0, 1; 3: in the town of THE TEXT. */
    private static RentedLooks seenFrom(int view, RentedLooks x) {
        if (view == 1 || view == 2) {
            x.goBack(view - 1);
        } else if (view == 3) {
            x.town();
        }
        return x;
    }

    /** All that can be asked, with THE SEED put back behind it. */
    private static int[] answers(RentedLooks x) {
        List<Integer> all = new ArrayList<>();
        all.add(x.fault());
        for (int what = 0; what <= 10; what++) {
            all.add(x.told(what));
        }
        for (int p = 0; p < x.told(0); p++) {
            for (int what = 0; what < 8; what++) {
                all.add(x.part(p, what));
            }
        }
        for (int s = 0; s < x.told(1); s++) {
            for (int what = 0; what < 3; what++) {
                all.add(x.scene(s, what));
            }
            all.add(x.cheapest(s, 0));
            all.add(x.cheapest(s, 1));
            all.add(x.dressing(s));
        }
        for (int i = 0; i <= x.told(9); i++) {
            all.add(x.look(i, 0));
            all.add(x.look(i, 1));
            all.add(x.look(i, 2));
        }
        for (int i = 0; i <= x.told(7); i++) {
            all.add(x.seen(i, 0));
            all.add(x.seen(i, 1));
        }
        all.add(x.dressing(NONE));
        all.add(x.rent(0));
        all.add(x.without(3));
        all.add(x.raise(2, 1));
        all.add(x.grow(2));
        all.add(x.wedding(3, 1));
        all.add(x.strange());
        all.add(x.judge());
        int seed = x.seed(1);
        x.seed(seed);
        all.add(seed);
        return all.stream().mapToInt(k -> k).toArray();
    }

    private static void same(String what, int[] got, int[] want) {
        CHECK.due(what + ": how many answers", got.length, want.length);
        for (int k = 0; k < Math.min(got.length, want.length); k++) {
            CHECK.due(what + ", answer " + k, got[k], want[k]);
        }
    }

    /** "Of several the first in this order": UNKNOWN, OUTSIDE, NOT, FULL. */
    private static void theFirstOfSeveral() {
        RentedLooks x = aFullTown();
        CHECK.due("part: UNKNOWN and OUTSIDE", x.part(6, 8), UNKNOWN);
        CHECK.due("part: UNKNOWN and OUTSIDE", x.part(-1, -1), UNKNOWN);
        CHECK.due("scene: UNKNOWN and OUTSIDE", x.scene(4, 3), UNKNOWN);
        CHECK.due("scene: UNKNOWN and OUTSIDE", x.scene(-1, -1), UNKNOWN);
        CHECK.due("price: UNKNOWN and OUTSIDE", x.price(6, 100), UNKNOWN);
        CHECK.due("price: UNKNOWN and OUTSIDE", x.price(-1, -1), UNKNOWN);
        CHECK.due("width: UNKNOWN and OUTSIDE", x.width(6, 10), UNKNOWN);
        CHECK.due("width: UNKNOWN and OUTSIDE", x.width(-1, -1), UNKNOWN);
        CHECK.due("cheapest: UNKNOWN and OUTSIDE", x.cheapest(4, 2), UNKNOWN);
        CHECK.due("cheapest: UNKNOWN and OUTSIDE", x.cheapest(-1, -1), UNKNOWN);
        CHECK.due("write: UNKNOWN, OUTSIDE and FULL", x.write(12, 6), UNKNOWN);
        CHECK.due("write: UNKNOWN and FULL", x.write(0, 6), UNKNOWN);
        CHECK.due("write: OUTSIDE and FULL", x.write(12, 0), OUTSIDE);
        CHECK.due("write: OUTSIDE and FULL", x.write(-1, 0), OUTSIDE);
        CHECK.due("see: OUTSIDE (HOUR) and FULL", x.see(12, 0), OUTSIDE);
        CHECK.due("see: OUTSIDE (WIDTH) and FULL", x.see(0, 28), OUTSIDE);
        CHECK.due("feed: OUTSIDE and FULL", x.feed(9, 0), OUTSIDE);
        CHECK.due("feed: OUTSIDE and FULL", x.feed(0, 0), OUTSIDE);
        RentedLooks y = new RentedLooks();
        CHECK.due("goBack: UNKNOWN and NOT", y.goBack(2), UNKNOWN);
        CHECK.due("goBack: UNKNOWN and NOT", y.goBack(-1), UNKNOWN);
        CHECK.due("write: UNKNOWN and OUTSIDE", y.write(12, 0), UNKNOWN);
    }
}
