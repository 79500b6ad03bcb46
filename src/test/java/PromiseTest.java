/** Each promise of the document by hand: ordinary calls, the edges that it names, wrong calls. */
public final class PromiseTest {
    private static final int NONE = -1, UNKNOWN = -1000000001, OUTSIDE = -1000000002, NOT = -1000000003, FULL = -1000000004;
    private static final int LOW = Integer.MIN_VALUE, HIGH = Integer.MAX_VALUE;

    // LOOKS: 0 {0,1,2} 9 wide for 22; 1 {0,2,4} 12 for 23; 2 {1,2,3} 7 for 16;
    // 3 {1,3,5} 3 for 12; 4 {2,3,4} 10 for 17; 5 {3,4,5} 6 for 13.
    private static final String TOWN = "part brow 0 3 10 0 11;part eyes 0 2 5 0 5;part mouth 1 4 7 0 11;"
        + "part brow 1 1 4 2 8;part eyes 2 5 6 0 11;part mouth 2 0 3 0 11;clash 0 5;"
        + "scene 0 5 9;scene 3 0 27;scene 3 8 12;scene 4 0 27;";

    // LOOKS: 0 {0,1,2}, 1 {0,1,5}, 2 {0,2,4}, 3 {0,4,5}, 4 {1,2,3}, 5 {1,3,5}, 6 {2,3,4}, 7 {3,4,5}.
    private static final String SIX = "part brow 0 1 2 0 11;part eyes 0 2 2 0 11;part mouth 0 3 2 0 11;"
        + "part brow 1 1 2 0 11;part eyes 1 2 2 0 11;part mouth 1 3 2 0 11;";

    private static final String THREE = "part brow 0 1 5 0 11;part eyes 1 2 6 0 11;part mouth 2 3 7 0 11;";

    private static final Check CHECK = new Check("PromiseTest");

    public static void main(String[] args) {
        constants();
        newObject();
        feed();
        town();
        townFaultsOfStanding();
        townFaultsOfNumbers();
        townFaultsOfMany();
        townFaultsOfPairs();
        townKeepsOrForgets();
        fault();
        told();
        part();
        scene();
        look();
        law();
        price();
        width();
        cheapest();
        dressing();
        dressingOfLikePrices();
        dressingByLaw();
        rent();
        without();
        raise();
        grow();
        wedding();
        see();
        seen();
        strange();
        day();
        drift();
        write();
        tear();
        judge();
        seed();
        keepAndGoBack();
        CHECK.close();
    }

    private static void due(String what, long got, long want) {
        CHECK.due(what, got, want);
    }

    private static RentedLooks in(String text) {
        return Check.inTown(text);
    }

    /** The answer of town() and the place of its fault. */
    private static void faulty(String text, int number, int place) {
        RentedLooks x = new RentedLooks();
        due("town() of [" + text + "]", Check.town(x, text), -10 - number);
        due("fault() of [" + text + "]", x.fault(), place);
        due("parts of [" + text + "]", x.told(0), 0);
        due("the text behind [" + text + "]", x.told(3), 0);
    }

    private static void sound(String text, int parts) {
        RentedLooks x = new RentedLooks();
        due("town() of [" + text + "]", Check.town(x, text), parts);
        due("fault() of [" + text + "]", x.fault(), NONE);
    }

    private static void constants() {
        due("NONE", RentedLooks.NONE, NONE);
        due("UNKNOWN", RentedLooks.UNKNOWN, UNKNOWN);
        due("OUTSIDE", RentedLooks.OUTSIDE, OUTSIDE);
        due("NOT", RentedLooks.NOT, NOT);
        due("FULL", RentedLooks.FULL, FULL);
    }

    // Promise 1
    private static void newObject() {
        RentedLooks x = new RentedLooks();
        for (int what = 0; what <= 10; what++) {
            due("told(" + what + ") at first", x.told(what), 0);
        }
        due("fault() at first", x.fault(), NONE);
        due("part(0, 0) at first", x.part(0, 0), UNKNOWN);
        due("scene(0, 0) at first", x.scene(0, 0), UNKNOWN);
        due("look(0, 0) at first", x.look(0, 0), NONE);
        due("dressing(NONE) at first", x.dressing(NONE), 0);
        due("without(0) at first", x.without(0), 0);
        due("rent(0) at first", x.rent(0), 0);
        due("raise(0, 0) at first", x.raise(0, 0), 0);
        due("raise(0, 1) at first", x.raise(0, 1), 0);
        due("day(9) at first", x.day(9), 0);
        due("drift(9) at first", x.drift(9), 0);
        due("days", x.told(6), 18);
        due("seed(0): no PART drew", x.seed(0), 0);
        due("goBack(0) at first", x.goBack(0), NOT);
        due("tear() at first", x.tear(), 0);
        due("judge() at first", x.judge(), NONE);
        due("strange() at first", x.strange(), NONE);
    }

    // Promise 2
    private static void feed() {
        RentedLooks x = new RentedLooks();
        due("feed(0, 0)", x.feed(0, 0), OUTSIDE);
        due("feed(9, 0)", x.feed(9, 0), OUTSIDE);
        due("feed(LOW, 0)", x.feed(LOW, 0), OUTSIDE);
        due("feed(HIGH, 0)", x.feed(HIGH, 0), OUTSIDE);
        due("told(3)", x.told(3), 0);
        due("feed(1, 32)", x.feed(1, 32), 1);
        due("feed(8, blanks)", x.feed(8, 0x2020202020202020L), 9);
        due("town() of blanks", x.town(), 0);
        // The highest of the lowest bytes first, all above them left out.
        due("feed(3, ..)", x.feed(3, 0x7b7b7b7b7b202041L), 3);
        due("town()", x.town(), -11);
        due("fault()", x.fault(), 2);
        due("feed(2, ..)", x.feed(2, 0xffffffffffff20ffL), 2);
        due("town()", x.town(), -11);
        due("fault()", x.fault(), 1);
        for (int n = 1; n <= 49; n++) {
            due("feed(8)", x.feed(8, 0x2020202020202020L), 8 * n);
        }
        due("feed(7)", x.feed(7, 0x20202020202020L), 399);
        due("feed(2) at 399", x.feed(2, 0x2020), FULL);
        due("feed(9) at 399", x.feed(9, 0x2020), OUTSIDE);
        due("told(3) at 399", x.told(3), 399);
        due("feed(1) at 399", x.feed(1, 0x20), 400);
        due("feed(1) at 400", x.feed(1, 0x20), FULL);
        due("feed(0) at 400", x.feed(0, 0x20), OUTSIDE);
        due("town() of 400 blanks", x.town(), 0);
        due("told(3)", x.told(3), 0);
    }

    // Promise 3
    private static void town() {
        sound("", 0);
        sound(" ", 0);
        sound(TOWN, 6);
        sound("scene5 0 27;", 0);
        sound("  part  brow  0  1  5  0  11  ;  ", 1);
        sound("part brow0 1 5 0 11;part eyes0 1 5 0 11;clash0 1;scene0 0 0;", 2);
        sound("part brow 003 009 099 000 011;", 1);
        sound("part brow 3 9 99 11 11;scene 11 27 27;", 1);
        RentedLooks x = in("part brow 003 009 099 000 011;scene 011 001 027;");
        due("landlord", x.part(0, 1), 3);
        due("price", x.part(0, 3), 99);
        due("hour", x.scene(0, 0), 11);
        due("v", x.scene(0, 2), 27);
    }

    private static void townFaultsOfStanding() {
        faulty(";", 1, 0);
        faulty("mask 1;", 1, 0);
        faulty("parts brow 0 1 1 1 1;", 1, 0);
        faulty("par", 1, 0);
        faulty("zart brow 0 1 1 1 1;", 1, 0);
        faulty("partz brow 0 1 1 1 1;", 1, 0);
        faulty("part arow 0 1 1 1 1;", 1, 5);
        faulty("part browz 0 1 1 1 1;", 1, 5);
        faulty("part brow{", 1, 9);
        faulty("part brow`", 1, 9);
        faulty("part brow 0:", 1, 11);
        faulty("part brow 0/", 1, 11);
        faulty(" Part", 1, 1);
        faulty("paRt brow 0 1 1 1 1;", 1, 0);
        faulty("partX", 1, 4);
        faulty("partbrow 0 1 1 1 1;", 1, 0);
        faulty("7", 1, 0);
        faulty("7777", 1, 0);
        faulty("part", 1, 4);
        faulty("part  ", 1, 6);
        faulty("part nose 0 1 1 1 1;", 1, 5);
        faulty("part brows 0 1 1 1 1;", 1, 5);
        faulty("part 0 brow 1 1 1 1;", 1, 5);
        faulty("part brow;", 1, 9);
        faulty("part brow brow 0 1 1 1 1;", 1, 10);
        faulty("part brow 0 1 1 5;", 1, 17);
        faulty("part brow 0 1 1 1 1 1;", 1, 20);
        faulty("part brow 0 1 1 1 1 1111;", 1, 20);
        faulty("part brow 0 1 1 1 1", 1, 19);
        faulty("part brow 0 1 1 1 1  ", 1, 21);
        faulty("part brow 0 1 1 1 1;;", 1, 20);
        faulty("part brow -1 1 1 1 1;", 1, 10);
        faulty("part brow 0\t1 1 1 1;", 1, 11);
        faulty("part brow 0 1 1 1 1;\n", 1, 20);
        faulty("part brow 0 1 1 1 1;\u00e9", 1, 20);
        faulty("scene 1 5;", 1, 9);
        faulty("scene 1 0 9", 1, 11);
        faulty("clash", 1, 5);
        faulty("clash ;", 1, 6);
        faulty(THREE + "clash 0;", 1, THREE.length() + 7);
        faulty(THREE + "clash 0 x;", 1, THREE.length() + 8);
    }

    private static void townFaultsOfNumbers() {
        faulty("part brow 4 1 1 1 1;", 2, 10);
        faulty("part brow 0 10 1 1 1;", 2, 12);
        faulty("part brow 0 1 100 1 1;", 2, 14);
        faulty("part brow 0 1 1 12 12;", 2, 16);
        faulty("part brow 0 1 1 5 12;", 2, 18);
        faulty("part brow 0 1 1 1 0001;", 2, 18);
        faulty("part brow 0000 1 1 1 1;", 2, 10);
        faulty("part brow 4294967296 1 1 1 1;", 2, 10);
        faulty("part brow 18446744073709551616 1 1 1 1;", 2, 10);
        faulty("part brow 0 1 1 5 999", 2, 18);
        faulty("scene 12 0 0;", 2, 6);
        faulty("scene 1 28 28;", 2, 8);
        faulty("scene 1 0 28;", 2, 10);
        faulty("scene 1 5 0004;", 2, 10);
        faulty("clash 0 1;", 2, 6);
        faulty(THREE + "clash 3 0;", 2, THREE.length() + 6);
        faulty(THREE + "clash 0 3;", 2, THREE.length() + 8);
        faulty(THREE + "clash 0 0001;", 2, THREE.length() + 8);
        faulty("part brow 0 1 1 1 1;clash 0 1;part eyes 0 1 1 1 1;", 2, 28);
    }

    private static void townFaultsOfMany() {
        String part = "part eyes 0 1 1 1 1;";
        sound(part.repeat(10), 10);
        faulty(part.repeat(11), 3, 200);
        faulty(part.repeat(10) + "  part", 3, 202);
        faulty(part.repeat(10) + "parts", 1, 200);
        String scene = "scene 1 0 9;";
        sound(scene.repeat(8), 0);
        faulty(scene.repeat(9), 3, 96);
        faulty(scene.repeat(8) + "scene 99", 3, 96);
        StringBuilder clashes = new StringBuilder("part brow0 1 1 1 1;".repeat(7));
        int many = 0;
        for (int x = 0; x < 7 && many < 15; x++) {
            for (int y = x + 1; y < 7 && many < 15; y++) {
                clashes.append("clash" + x + " " + y + ";");
                many++;
            }
        }
        sound(clashes.toString(), 7);
        due("15 CLASH", in(clashes.toString()).told(2), 15);
        faulty(clashes + "clash 5 6;", 3, clashes.length());
        faulty(clashes + " clash 0 0;", 3, clashes.length() + 1);
    }

    private static void townFaultsOfPairs() {
        faulty("part brow 0 1 1 5 4;", 4, 18);
        faulty("part brow 0 1 1 11  10", 4, 20);
        sound("part brow 0 1 1 5 5;", 1);
        faulty("scene 1 5 4;", 4, 10);
        faulty("scene 1 27 0", 4, 11);
        sound("scene 1 5 5;", 0);
        faulty("part brow 0 1 1 1 1;clash 0 0;", 4, 28);
        faulty(THREE + "clash 0 1;clash 1 0;", 4, THREE.length() + 18);
        faulty(THREE + "clash 0 1;clash 0 1;", 4, THREE.length() + 18);
        sound(THREE + "clash 0 1;clash 1 2;clash 2 0;", 3);
        // PARTS of one KIND may clash, too.
        due("a clash of two brows", in("part brow 0 1 1 1 1;part brow 0 1 1 1 1;clash 1 0;").part(0, 6), 2);
    }

    private static void townKeepsOrForgets() {
        RentedLooks x = in(TOWN);
        x.law(1);
        x.seed(77);
        x.price(0, 50);
        x.law(0);
        x.day(1);
        x.law(1);
        x.see(0, 1);
        x.write(0, 0);
        x.keep(0);
        x.keep(1);
        int spent = x.told(5);
        due("a faulty town()", Check.town(x, "part"), -11);
        due("fault()", x.fault(), 4);
        due("PARTS", x.told(0), 6);
        due("SCENES", x.told(1), 4);
        due("CLASH", x.told(2), 1);
        due("bytes", x.told(3), 0);
        due("SPENT", x.told(5), spent);
        CHECK.holds("something was SPENT", spent > 0);
        due("days", x.told(6), 1);
        due("SEEN", x.told(7), 1);
        due("BOOK", x.told(8), 1);
        due("LOOKS", x.told(9), 6);
        due("price(0)", x.part(0, 3), 50);
        due("goBack(0) behind a FAULT", x.goBack(0), 1);
        due("a part's clause is taken back whole", Check.town(x, "part brow 0 9 9 0 0;part eyes 9"), -12);
        due("PARTS", x.told(0), 6);
        due("price(0)", x.part(0, 3), 50);

        due("the same town again", Check.town(x, TOWN), 6);
        due("fault()", x.fault(), NONE);
        due("LAW stays", x.told(4), 1);
        due("SPENT", x.told(5), 0);
        due("days", x.told(6), 0);
        due("SEEN", x.told(7), 0);
        due("BOOK", x.told(8), 0);
        due("SCENES", x.told(1), 4);
        due("CLASH", x.told(2), 1);
        for (int p = 0; p < 6; p++) {
            due("WORN of " + p, x.part(p, 7), 0);
        }
        due("price(0)", x.part(0, 3), 10);
        due("IMAGES are gone", x.goBack(0), NOT);
        due("IMAGES are gone", x.goBack(1), NOT);
        due("THE SEED stays", x.seed(0), 77);
        due("an empty town", x.town(), 0);
        due("PARTS", x.told(0), 0);
        due("CLASH", x.told(2), 0);
        due("LOOKS", x.told(9), 0);
        due("part(0, 0)", x.part(0, 0), UNKNOWN);
    }

    // Promise 4
    private static void fault() {
        RentedLooks x = new RentedLooks();
        due("fault() at first", x.fault(), NONE);
        Check.town(x, "scene 1 5;");
        due("fault()", x.fault(), 9);
        Check.feed(x, "scene 1 5 9;");
        due("fault() ahead of the next town()", x.fault(), 9);
        x.town();
        due("fault() behind it", x.fault(), NONE);
        Check.town(x, ";");
        due("fault() at 0", x.fault(), 0);
    }

    // Promise 5
    private static void told() {
        RentedLooks x = in(TOWN);
        Check.feed(x, "abc");
        int[] want = {6, 4, 1, 3, 0, 0, 0, 0, 0, 6, 5832};
        for (int what = 0; what <= 10; what++) {
            due("told(" + what + ")", x.told(what), want[what]);
        }
        x.see(0, 1);
        x.see(0, 1);
        x.write(0, 0);
        x.day(2);
        x.law(1);
        due("LAW", x.told(4), 1);
        due("SPENT", x.told(5), 138);
        due("days", x.told(6), 2);
        due("SEEN", x.told(7), 2);
        due("BOOK", x.told(8), 1);
        x.width(0, 0);
        due("WIDTHS: 6, 9, 7, 3, 10, 6", x.told(10), 64 | 512 | 128 | 8 | 1024);
        due("told(-1)", x.told(-1), OUTSIDE);
        due("told(11)", x.told(11), OUTSIDE);
        due("told(LOW)", x.told(LOW), OUTSIDE);
        due("told(HIGH)", x.told(HIGH), OUTSIDE);
        RentedLooks y = in("part brow 0 9 1 0 0;part eyes 0 9 1 5 5;part mouth 0 9 1 9 9;");
        due("a LOOK that is never free is one", y.told(9), 1);
        due("WIDTHS: 27", y.told(10), 1 << 27);
        y.width(0, 0);
        y.width(1, 0);
        y.width(2, 0);
        due("WIDTHS: 0", y.told(10), 1);
        due("no LOOKS, no WIDTHS", in("part brow 0 9 1 0 0;part eyes 0 9 1 5 5;").told(10), 0);
    }

    // Promise 6
    private static void part() {
        RentedLooks x = in("part mouth 3 4 7 0 11;part eyes 2 9 99 2 8;part brow 1 0 0 5 5;clash 0 2;clash 1 0;");
        int[][] want = {{2, 3, 4, 7, 0, 11, 6, 0}, {1, 2, 9, 99, 2, 8, 1, 0}, {0, 1, 0, 0, 5, 5, 1, 0}};
        for (int p = 0; p < 3; p++) {
            for (int what = 0; what < 8; what++) {
                due("part(" + p + ", " + what + ")", x.part(p, what), want[p][what]);
            }
        }
        due("part(3, 0)", x.part(3, 0), UNKNOWN);
        due("part(-1, 0)", x.part(-1, 0), UNKNOWN);
        due("part(3, 9)", x.part(3, 9), UNKNOWN);
        due("part(HIGH, 0)", x.part(HIGH, 0), UNKNOWN);
        due("part(LOW, 0)", x.part(LOW, 0), UNKNOWN);
        due("part(0, -1)", x.part(0, -1), OUTSIDE);
        due("part(0, 8)", x.part(0, 8), OUTSIDE);
    }

    // Promise 7
    private static void scene() {
        RentedLooks x = in("scene 11 3 9;scene 0 0 27;");
        int[][] want = {{11, 3, 9}, {0, 0, 27}};
        for (int s = 0; s < 2; s++) {
            for (int what = 0; what < 3; what++) {
                due("scene(" + s + ", " + what + ")", x.scene(s, what), want[s][what]);
            }
        }
        due("scene(2, 0)", x.scene(2, 0), UNKNOWN);
        due("scene(-1, 5)", x.scene(-1, 5), UNKNOWN);
        due("scene(LOW, 0)", x.scene(LOW, 0), UNKNOWN);
        due("scene(0, 3)", x.scene(0, 3), OUTSIDE);
        due("scene(0, -1)", x.scene(0, -1), OUTSIDE);
    }

    // Promise 8
    private static void look() {
        RentedLooks x = in(TOWN);
        int[][] want = {{7, 9, 22}, {21, 12, 23}, {14, 7, 16}, {42, 3, 12}, {28, 10, 17}, {56, 6, 13}};
        for (int i = 0; i < 6; i++) {
            for (int what = 0; what < 3; what++) {
                due("look(" + i + ", " + what + ")", x.look(i, what), want[i][what]);
            }
        }
        due("look(6, 0)", x.look(6, 0), NONE);
        due("look(-1, 0)", x.look(-1, 0), NONE);
        due("look(LOW, 2)", x.look(LOW, 2), NONE);
        due("look(HIGH, 2)", x.look(HIGH, 2), NONE);
        due("look(0, 3)", x.look(0, 3), OUTSIDE);
        due("look(0, -1)", x.look(0, -1), OUTSIDE);
        due("look(6, 3)", x.look(6, 3), OUTSIDE);
        due("look(-1, -1)", x.look(-1, -1), OUTSIDE);
        x.price(1, 50);
        x.width(1, 9);
        due("WIDTH by width()", x.look(0, 1), 16);
        due("PRICE by price()", x.look(0, 2), 67);
        // In order by brow, eyes, mouth, however they were told.
        RentedLooks y = in("part mouth 0 1 1 0 1;part eyes 0 1 1 0 1;part mouth 0 1 1 0 1;part brow 0 1 1 0 1;part eyes 0 1 1 0 1;clash 1 2;");
        due("LOOKS", y.told(9), 3);
        due("look(0)", y.look(0, 0), 8 | 2 | 1);
        due("look(1)", y.look(1, 0), 8 | 16 | 1);
        due("look(2)", y.look(2, 0), 8 | 16 | 4);
        RentedLooks z = in("part eyes 0 1 1 0 1;part mouth 0 1 1 0 1;part brow 0 1 1 0 1;");
        due("eyes told first", z.look(0, 0), 7);
        // Each two of the three may clash.
        due("brow and eyes", in(THREE + "clash 0 1;").told(9), 0);
        due("brow and mouth", in(THREE + "clash 2 0;").told(9), 0);
        due("eyes and mouth", in(THREE + "clash 1 2;").told(9), 0);
        due("36 LOOKS", in("part brow0 1 1 0 1;".repeat(3) + "part eyes0 1 1 0 1;".repeat(4) + "part mouth0 1 1 0 1;".repeat(3)).told(9), 36);
    }

    // Promise 9
    private static void law() {
        RentedLooks x = new RentedLooks();
        due("law(1)", x.law(1), 0);
        due("law(1) again", x.law(1), 1);
        due("law(2)", x.law(2), OUTSIDE);
        due("law(-1)", x.law(-1), OUTSIDE);
        due("law(HIGH)", x.law(HIGH), OUTSIDE);
        due("LAW", x.told(4), 1);
        due("law(0)", x.law(0), 1);
        due("LAW", x.told(4), 0);
    }

    // Promise 10
    private static void price() {
        RentedLooks x = in(THREE);
        due("price(0, 99)", x.price(0, 99), 5);
        due("price(0, 0)", x.price(0, 0), 99);
        due("price(0, 100)", x.price(0, 100), OUTSIDE);
        due("price(0, -1)", x.price(0, -1), OUTSIDE);
        due("price(3, 100)", x.price(3, 100), UNKNOWN);
        due("price(-1, 1)", x.price(-1, 1), UNKNOWN);
        due("price(LOW, 1)", x.price(LOW, 1), UNKNOWN);
        due("PRICE", x.part(0, 3), 0);
        due("another's PRICE", x.part(1, 3), 6);
    }

    // Promise 11
    private static void width() {
        RentedLooks x = in(THREE);
        due("width(2, 9)", x.width(2, 9), 3);
        due("width(2, 0)", x.width(2, 0), 9);
        due("width(2, 10)", x.width(2, 10), OUTSIDE);
        due("width(2, -1)", x.width(2, -1), OUTSIDE);
        due("width(3, 10)", x.width(3, 10), UNKNOWN);
        due("width(-1, 1)", x.width(-1, 1), UNKNOWN);
        due("width(HIGH, 1)", x.width(HIGH, 1), UNKNOWN);
        due("WIDTH", x.part(2, 2), 0);
        due("another's WIDTH", x.part(1, 2), 2);
    }

    // Promise 12
    private static void cheapest() {
        RentedLooks x = in(TOWN);
        due("cheapest(0, 0): 5 to 9 at 0", x.cheapest(0, 0), 7);
        due("cheapest(0, 1)", x.cheapest(0, 1), 22);
        due("cheapest(1, 0)", x.cheapest(1, 0), 42);
        due("cheapest(1, 1)", x.cheapest(1, 1), 12);
        due("cheapest(2, 0): 8 to 12 at 3", x.cheapest(2, 0), 28);
        due("cheapest(2, 1)", x.cheapest(2, 1), 17);
        due("cheapest(4, 0)", x.cheapest(4, 0), UNKNOWN);
        due("cheapest(4, 2)", x.cheapest(4, 2), UNKNOWN);
        due("cheapest(-1, 0)", x.cheapest(-1, 0), UNKNOWN);
        due("cheapest(0, 2)", x.cheapest(0, 2), OUTSIDE);
        due("cheapest(0, -1)", x.cheapest(0, -1), OUTSIDE);
        x.width(1, 3);
        due("nobody is 5 to 9 wide at 0", x.cheapest(0, 0), NONE);
        due("nor its PRICE", x.cheapest(0, 1), NONE);
        due("OUTSIDE is ahead of NONE", x.cheapest(0, 2), OUTSIDE);
        RentedLooks y = in(SIX + "scene 0 6 6;");
        due("of like PRICES the first", y.cheapest(0, 0), 7);
        y.price(0, 3);
        due("the cheaper brow", y.cheapest(0, 0), 14);
        RentedLooks z = in(THREE + "scene 0 6 6;scene 0 7 9;scene 0 0 5;");
        due("U and V themselves do", z.cheapest(0, 1), 18);
        due("below U", z.cheapest(1, 1), NONE);
        due("above V", z.cheapest(2, 1), NONE);
        RentedLooks h = in("part brow 0 1 1 3 5;part eyes 0 1 1 0 4;part mouth 0 1 1 2 9;"
            + "scene 2 0 9;scene 3 0 9;scene 4 0 9;scene 5 0 9;");
        int[] want = {NONE, 7, 7, NONE};
        for (int s = 0; s < 4; s++) {
            due("free from 3 to 4: " + s, h.cheapest(s, 0), want[s]);
        }
    }

    // Promise 13
    private static void dressing() {
        RentedLooks x = in(TOWN);
        int[] want = {7, 42, 21, 42};
        due("dressing(NONE)", x.dressing(NONE), 69);
        for (int s = 0; s < 4; s++) {
            due("dressing(" + s + ")", x.dressing(s), want[s]);
        }
        due("dressing(4)", x.dressing(4), UNKNOWN);
        due("dressing(-2)", x.dressing(-2), UNKNOWN);
        due("dressing(LOW)", x.dressing(LOW), UNKNOWN);
        due("dressing(HIGH)", x.dressing(HIGH), UNKNOWN);
        x.width(1, 3);
        due("one SCENE without a LOOK: none for all", x.dressing(NONE), NONE);
        due("nor for another", x.dressing(3), NONE);
        due("dressing(4)", x.dressing(4), UNKNOWN);
        due("without SCENES", in(THREE).dressing(NONE), 0);
        due("without PARTS", in("scene 0 0 27;").dressing(NONE), NONE);
        due("two at once with one LOOK", in(THREE + "scene 4 0 27;scene 4 0 27;").dressing(NONE), NONE);
        due("one after the other", in(THREE + "scene 4 0 27;scene 5 0 27;").dressing(NONE), 36);
        String nine = "part brow0 1 1 0 1;".repeat(3) + "part eyes0 1 2 0 1;".repeat(3) + "part mouth0 1 3 0 1;".repeat(3);
        RentedLooks three = in(nine + "scene 0 0 27;".repeat(3));
        due("three at once", three.dressing(NONE), 18);
        due("the first of them", three.dressing(0), 1 | 8 | 64);
        due("the second", three.dressing(1), 2 | 16 | 128);
        due("the third", three.dressing(2), 4 | 32 | 256);
        due("four at once", in(nine + "scene 0 0 27;".repeat(4)).dressing(NONE), NONE);
        due("eight at once", in(nine + "scene 0 0 27;".repeat(8)).dressing(NONE), NONE);
    }

    private static void dressingOfLikePrices() {
        RentedLooks x = in(SIX + "scene 3 0 27;scene 1 0 27;");
        due("the lesser SET", x.dressing(0), 7);
        due("in each HOUR", x.dressing(1), 7);
        // With one SET for both, the first SCENE told has the first LOOK.
        RentedLooks y = in(SIX + "scene 3 0 27;scene 3 6 6;");
        due("both", y.dressing(NONE), 12);
        due("the first", y.dressing(0), 7);
        due("the second", y.dressing(1), 56);
        // The SET counts, not the LOOK: of LOOKS {1,2,3} (SET 14) and {0,2,4} (SET 21) the second is first.
        RentedLooks z = in("part brow 0 1 2 0 11;part eyes 0 1 2 0 11;part mouth 0 1 2 0 11;part brow 0 1 2 0 11;"
            + "part eyes 0 1 2 0 11;clash 0 1;clash 3 4;scene 0 0 27;");
        due("look(0)", z.look(0, 0), 21);
        due("look(1)", z.look(1, 0), 14);
        due("CHEAPEST: the first LOOK", z.cheapest(0, 0), 21);
        due("BEST DRESSING: the lesser SET", z.dressing(0), 14);
        // A lesser SET in an earlier HOUR is ahead of one in a later.
        RentedLooks w = in(SIX + "scene 0 0 27;scene 1 0 27;");
        w.law(1);
        due("HOUR 0", w.dressing(0), 7);
        due("HOUR 1", w.dressing(1), 56);
        RentedLooks v = in(SIX + "scene 1 0 27;scene 0 0 27;");
        v.law(1);
        due("HOUR 1, told first", v.dressing(0), 56);
        due("HOUR 0, told then", v.dressing(1), 7);
    }

    private static void dressingByLaw() {
        RentedLooks x = in(THREE + "scene 3 0 27;scene 5 0 27;");
        due("LAW 0", x.dressing(NONE), 36);
        x.law(1);
        due("LAW 1, an HOUR between", x.dressing(NONE), 36);
        RentedLooks y = in(THREE + "scene 3 0 27;scene 4 0 27;");
        due("LAW 0", y.dressing(NONE), 36);
        y.law(1);
        due("LAW 1, side by side", y.dressing(NONE), NONE);
        RentedLooks z = in(THREE + "scene 0 0 27;scene 11 0 27;");
        z.law(1);
        due("HOURS 11 and 0 are not side by side", z.dressing(NONE), 36);
        // What is cheapest by HOURS may not be so for the day.
        RentedLooks w = in("part brow 0 1 1 0 11;part eyes 0 1 1 0 11;part mouth 0 1 1 0 11;part brow 0 2 9 0 11;"
            + "part eyes 0 2 9 0 11;part mouth 0 2 9 0 11;scene 4 0 27;scene 5 0 3;");
        due("LAW 0", w.dressing(NONE), 6);
        w.law(1);
        due("LAW 1", w.dressing(NONE), 30);
        due("the dear one first", w.dressing(0), 56);
        due("the cheap one then", w.dressing(1), 7);
        w.law(0);
        due("LAW 0 again", w.dressing(0), 7);
    }

    // Promise 14
    private static void rent() {
        RentedLooks x = in(TOWN);
        int[] want = {35, 22, 12, 0};
        for (int l = 0; l < 4; l++) {
            due("rent(" + l + ")", x.rent(l), want[l]);
        }
        due("rent(4)", x.rent(4), OUTSIDE);
        due("rent(-1)", x.rent(-1), OUTSIDE);
        due("rent(LOW)", x.rent(LOW), OUTSIDE);
        x.law(1);
        due("rent(0) without a dressing", x.rent(0), 0);
        RentedLooks y = in(THREE + "scene 0 0 27;scene 1 0 27;scene 7 0 27;");
        due("each HOUR", y.rent(1), 18);
        y.price(1, 99);
        due("by its PRICE", y.rent(1), 297);
    }

    // Promise 15
    private static void without() {
        RentedLooks x = in(TOWN);
        due("without(0)", x.without(0), NONE);
        due("without(3), that has no PARTS", x.without(3), 0);
        due("without(4)", x.without(4), OUTSIDE);
        due("without(-1)", x.without(-1), OUTSIDE);
        due("without(HIGH)", x.without(HIGH), OUTSIDE);
        RentedLooks y = in("part brow 0 1 2 0 11;part brow 1 1 9 0 11;part eyes 2 1 0 0 11;part mouth 2 1 0 0 11;"
            + "scene 2 0 27;scene 7 0 27;");
        due("now", y.dressing(NONE), 4);
        due("without the cheap brow", y.without(0), 14);
        due("without the dear brow", y.without(1), 0);
        due("without the eyes", y.without(2), NONE);
        due("as ever", y.dressing(NONE), 4);
        y.width(2, 9);
        y.width(3, 9);
        due("wide enough", y.without(0), 14);
        due("none now", in(THREE + "scene 0 0 0;").without(3), NONE);
        due("without SCENES", in(THREE).without(0), 0);
    }

    // Promise 16
    private static void raise() {
        RentedLooks x = in("part brow 0 1 2 0 11;part brow 1 1 9 0 11;part eyes 2 1 0 0 11;part mouth 3 1 90 0 11;scene 2 0 27;");
        // At 7 more both brows are alike, and the lesser SET has brow 0; at 8 more brow 1 is cheaper.
        due("raise(0, 0)", x.raise(0, 0), 7);
        due("raise(0, 1)", x.raise(0, 1), 9);
        due("raise(1, 0): it is never worn", x.raise(1, 0), 0);
        due("raise(1, 1)", x.raise(1, 1), 0);
        due("raise(2, 0)", x.raise(2, 0), 20);
        due("raise(2, 1)", x.raise(2, 1), 20);
        due("raise(3, 0): 99 at most, of like ones the least", x.raise(3, 0), 9);
        due("raise(3, 1)", x.raise(3, 1), 99);
        due("PRICES are as they were", x.part(0, 3), 2);
        due("PRICES are as they were", x.part(3, 3), 90);
        due("raise(4, 0)", x.raise(4, 0), OUTSIDE);
        due("raise(-1, 0)", x.raise(-1, 0), OUTSIDE);
        due("raise(0, 2)", x.raise(0, 2), OUTSIDE);
        due("raise(0, -1)", x.raise(0, -1), OUTSIDE);
        RentedLooks none = in(THREE + "scene 0 0 0;");
        due("without a dressing", none.raise(0, 0), 0);
        due("without a dressing", none.raise(0, 1), 0);
        RentedLooks many = in(THREE + "scene 0 0 27;scene 5 0 27;");
        due("each HOUR", many.raise(0, 1), 50);
        RentedLooks all = in("part brow 0 1 5 0 11;part eyes 0 2 90 0 11;part mouth 0 3 7 0 11;scene 0 0 27;");
        due("each of its PARTS", all.raise(0, 1), 25 + 99 + 27);
        due("by 20", all.raise(0, 0), 20);
    }

    // Promise 17
    private static void grow() {
        RentedLooks x = in(TOWN);
        due("grow(0)", x.grow(0), 0);
        due("grow(1)", x.grow(1), 2);
        due("grow(2)", x.grow(2), 6);
        due("grow(3)", x.grow(3), OUTSIDE);
        due("grow(-1)", x.grow(-1), OUTSIDE);
        due("WIDTHS are as they were", x.part(0, 2), 3);
        RentedLooks one = in(THREE);
        due("of like ones the lesser PART", one.grow(0), 0);
        due("the lesser WIDTH", one.grow(1), 0);
        due("how many", one.grow(2), 1);
        RentedLooks none = in("part eyes 0 5 1 0 1;");
        due("PARTS without a LOOK", none.grow(0), 0);
        due("PARTS without a LOOK", none.grow(1), 0);
        due("PARTS without a LOOK", none.grow(2), 0);
        RentedLooks empty = new RentedLooks();
        for (int what = 0; what < 3; what++) {
            due("without PARTS", empty.grow(what), NONE);
        }
        due("OUTSIDE without PARTS", empty.grow(3), OUTSIDE);
        // Brows 0 and 9 wide, eyes both 0 wide: other eyes make four WIDTHS of two.
        RentedLooks y = in("part mouth 0 0 1 0 1;part brow 0 0 1 0 1;part brow 0 9 1 0 1;part eyes 0 0 1 0 1;part eyes 0 0 1 0 1;");
        due("the PART", y.grow(0), 3);
        due("its WIDTH", y.grow(1), 1);
        due("four WIDTHS", y.grow(2), 4);
        // Brows 1 to 7 wide, 3 twice: one of these two takes a WIDTH of its own.
        RentedLooks z = in("part eyes0 0 1 0 1;part mouth0 0 1 0 1;" + "part brow0 0 1 0 1;".repeat(8));
        for (int p = 3; p < 10; p++) {
            z.width(p, p - 2);
        }
        z.width(2, 3);
        due("eight WIDTHS", z.grow(2), 8);
        due("the lesser WIDTH that none has", z.grow(1), 0);
        RentedLooks nine = in("part eyes0 0 1 0 1;part eyes0 0 1 0 1;part mouth0 0 1 0 1;" + "part brow0 0 1 0 1;".repeat(7));
        for (int p = 3; p < 10; p++) {
            nine.width(p, p - 3);
        }
        // 0 to 6 and, by eyes 9 wide, 9 to 15: 7 would be one of the first seven again, 8 would make 8 to 14.
        due("fourteen WIDTHS", nine.grow(2), 14);
        due("by the first eyes", nine.grow(0), 0);
        due("7 wide is the least", nine.grow(1), 7);
        RentedLooks wide = in("part eyes0 8 1 0 1;part mouth0 0 1 0 1;part brow0 0 1 0 1;part brow0 1 1 0 1;"
            + "part brow0 2 1 0 1;part brow0 3 1 0 1;part brow0 4 1 0 1;part eyes0 4 1 0 1;");
        due("0 to 4 by 4 and by 9", wide.grow(2), 10);
        due("the eyes", wide.grow(0), 0);
        due("9 wide", wide.grow(1), 9);
    }

    // Promise 18
    private static void wedding() {
        RentedLooks x = in(SIX);
        due("wedding(0, 0)", x.wedding(0, 0), 12);
        due("wedding(0, 1)", x.wedding(0, 1), 63);
        due("wedding(11, 1)", x.wedding(11, 1), 63);
        due("wedding(12, 0)", x.wedding(12, 0), OUTSIDE);
        due("wedding(-1, 0)", x.wedding(-1, 0), OUTSIDE);
        due("wedding(0, 2)", x.wedding(0, 2), OUTSIDE);
        due("wedding(0, -1)", x.wedding(0, -1), OUTSIDE);
        x.width(0, 2);
        due("all of one are wider by one", x.wedding(0, 0), NONE);
        due("nor PARTS", x.wedding(0, 1), NONE);
        x.width(4, 3);
        due("{0,1,m} and {3,4,n} are", x.wedding(0, 0), 12);
        RentedLooks one = in(THREE);
        due("one LOOK alone", one.wedding(0, 0), NONE);
        due("no PARTS", new RentedLooks().wedding(0, 0), NONE);
        RentedLooks free = in("part brow 0 1 2 0 3;part eyes 0 2 2 0 11;part mouth 0 3 2 0 11;"
            + "part brow 1 1 2 2 11;part eyes 1 2 2 0 11;part mouth 1 3 2 0 11;");
        int[] want = {NONE, NONE, 12, 12, NONE};
        for (int h = 0; h < 5; h++) {
            due("free from 2 to 3: " + h, free.wedding(h, 0), want[h]);
        }
        String seven = SIX + "part mouth 1 3 1 0 11;";
        RentedLooks dear = in(seven);
        due("the least PRICE", dear.wedding(0, 0), 11);
        due("of like ones the first LOOK's first", dear.wedding(0, 1), 1 | 2 | 4 | 8 | 16 | 64);
        dear.price(6, 2);
        due("of like ones the first, then the other", dear.wedding(0, 1), 63);
        RentedLooks next = in(SIX + "clash 0 4;clash 0 5;clash 3 1;clash 3 2;");
        due("two LOOKS", next.told(9), 2);
        due("side by side in the order", next.wedding(0, 1), 63);
        // PARTS of the two may clash with one another.
        due("clashing with the other", in(SIX + "clash 0 3;").wedding(0, 0), 12);
    }

    // Promise 19
    private static void see() {
        RentedLooks x = in(TOWN);
        due("see(12, 0)", x.see(12, 0), OUTSIDE);
        due("see(-1, 0)", x.see(-1, 0), OUTSIDE);
        due("see(0, 28)", x.see(0, 28), OUTSIDE);
        due("see(0, -1)", x.see(0, -1), OUTSIDE);
        due("see(HIGH, LOW)", x.see(HIGH, LOW), OUTSIDE);
        due("SEEN", x.told(7), 0);
        due("see(0, 0)", x.see(0, 0), 1);
        due("see(11, 27)", x.see(11, 27), 2);
        for (int n = 3; n <= 20; n++) {
            due("see(0, 9)", x.see(0, 9), n);
        }
        due("a 21st", x.see(0, 9), FULL);
        due("a 21st that is OUTSIDE", x.see(12, 9), OUTSIDE);
        due("SEEN", x.told(7), 20);
    }

    // Promise 20
    private static void seen() {
        RentedLooks x = in(TOWN);
        x.see(3, 9);
        x.see(0, 20);
        x.see(5, 7);
        x.see(1, 7);
        int[][] want = {{7, 7}, {0, 0}, {14, 14}, {0, 0}};
        for (int i = 0; i < 4; i++) {
            due("MAY " + i, x.seen(i, 0), want[i][0]);
            due("SURE " + i, x.seen(i, 1), want[i][1]);
        }
        due("seen(4, 0)", x.seen(4, 0), NONE);
        due("seen(-1, 1)", x.seen(-1, 1), NONE);
        due("seen(LOW, 0)", x.seen(LOW, 0), NONE);
        due("seen(0, 2)", x.seen(0, 2), OUTSIDE);
        due("seen(4, 2)", x.seen(4, 2), OUTSIDE);
        due("seen(0, -1)", x.seen(0, -1), OUTSIDE);
        // Both mouths and both brows may be, the eyes that are 2 wide surely are.
        RentedLooks y = in(SIX);
        y.width(4, 9);
        y.see(5, 6);
        due("MAY", y.seen(0, 0), 1 | 2 | 4 | 8 | 32);
        due("SURE", y.seen(0, 1), 2);
        y.width(1, 9);
        due("as WIDTHS are now: MAY", y.seen(0, 0), 0);
        due("as WIDTHS are now: SURE", y.seen(0, 1), 0);
        RentedLooks first = in(SIX + "clash 0 4;clash 3 1;clash 3 2;");
        first.see(0, 6);
        due("MAY: {0,1,2}, {0,1,5}, {3,4,5}", first.seen(0, 0), 63);
        due("SURE: the first counts", first.seen(0, 1), 0);
        RentedLooks two = in(SIX + "clash 0 5;clash 3 1;clash 3 4;");
        two.see(0, 6);
        due("MAY: {0,1,2}, {0,2,4}", two.seen(0, 0), 23);
        due("SURE", two.seen(0, 1), 5);
        // LOOKS without a common PART: nothing is SURE.
        RentedLooks z = in(SIX);
        z.see(0, 6);
        due("MAY be all", z.seen(0, 0), 63);
        due("SURE is none", z.seen(0, 1), 0);
    }

    // Promise 21
    private static void strange() {
        RentedLooks x = in(TOWN);
        x.see(3, 9);
        due("none", x.strange(), NONE);
        x.see(5, 7);
        x.see(0, 20);
        x.see(0, 21);
        due("the first", x.strange(), 2);
        x.width(4, 0);
        due("still", x.strange(), 2);
        x.width(1, 0);
        due("by WIDTHS of now", x.strange(), 0);
        RentedLooks y = in(SIX);
        y.see(0, 6);
        due("nothing SURE is not strange", y.strange(), NONE);
    }

    // Promise 22
    private static void day() {
        RentedLooks x = in(TOWN);
        due("day(0)", x.day(0), OUTSIDE);
        due("day(10)", x.day(10), OUTSIDE);
        due("day(-1)", x.day(-1), OUTSIDE);
        due("days", x.told(6), 0);
        due("day(1)", x.day(1), 69);
        int[] worn = {2, 3, 2, 2, 1, 2};
        for (int p = 0; p < 6; p++) {
            due("WORN of " + p, x.part(p, 7), worn[p]);
        }
        due("day(2)", x.day(2), 138);
        due("SPENT", x.told(5), 207);
        // On the 4th day eyes 1 have been worn 12 HOURS.
        due("day(1)", x.day(1), 69);
        due("WORN of 1", x.part(1, 7), 2);
        due("WIDTH of 1", x.part(1, 2), 1);
        due("days", x.told(6), 4);
        RentedLooks none = in(TOWN);
        none.law(1);
        due("days without a dressing", none.day(3), 0);
        due("go by", none.told(6), 3);
        due("nothing is worn", none.part(0, 7), 0);
        RentedLooks thin = in("part brow 0 0 3 0 11;part eyes 0 1 2 0 11;part mouth 0 9 1 0 11;"
            + "scene 0 0 27;scene 1 0 27;scene 2 0 27;scene 3 0 27;scene 4 0 27;scene 5 0 27;scene 6 0 27;scene 7 0 27;");
        due("eight HOURS a day", thin.day(9), 9 * 48);
        due("72 HOURS: WORN 2", thin.part(0, 7), 2);
        due("not below 0", thin.part(0, 2), 0);
        due("not below 0", thin.part(1, 2), 0);
        due("7 off 9", thin.part(2, 2), 2);
        due("WORN stays by width()", thin.width(2, 5), 2);
        due("WORN stays by width()", thin.part(2, 7), 2);
        RentedLooks ten = in(THREE + "scene 0 0 27;scene 1 0 27;");
        ten.day(4);
        due("8 HOURS", ten.part(0, 7), 8);
        due("8 HOURS", ten.part(0, 2), 1);
        ten.day(1);
        due("10 HOURS", ten.part(0, 7), 0);
        due("10 HOURS", ten.part(0, 2), 0);
        // As parts wear out, the dressing of the next day is another.
        RentedLooks out = in(THREE + "scene 0 6 27;scene 1 6 27;");
        due("five days until 10 HOURS", out.day(9), 5 * 36);
    }

    // Promise 23
    private static void drift() {
        RentedLooks x = in("part brow 0 1 50 0 11;part eyes 0 1 0 0 11;part mouth 0 1 99 0 11;scene 0 0 27;");
        due("drift(0)", x.drift(0), OUTSIDE);
        due("drift(10)", x.drift(10), OUTSIDE);
        due("drift(LOW)", x.drift(LOW), OUTSIDE);
        due("THE SEED is as it was", x.seed(0), 0);
        long seed = 0;
        int[] prices = {50, 0, 99};
        int spent = 0;
        int upHeld = 0;
        int downHeld = 0;
        for (int d = 0; d < 9; d++) {
            for (int p = 0; p < 3; p++) {
                seed = (seed * 1103515245L + 12345L) % 2147483648L;
                long drawn = seed / 65536 % 4;
                upHeld += drawn == 0 && prices[p] == 99 ? 1 : 0;
                downHeld += drawn == 1 && prices[p] == 0 ? 1 : 0;
                prices[p] += drawn == 0 && prices[p] < 99 ? 1 : drawn == 1 && prices[p] > 0 ? -1 : 0;
            }
            spent += prices[0] + prices[1] + prices[2];
        }
        CHECK.holds("the draws meet 0 and 99", upHeld > 0 && downHeld > 0);
        due("drift(9)", x.drift(9), spent);
        for (int p = 0; p < 3; p++) {
            due("PRICE of " + p, x.part(p, 3), prices[p]);
        }
        due("SPENT", x.told(5), spent);
        due("days", x.told(6), 9);
        due("WORN", x.part(0, 7), 9);
        due("THE SEED", x.seed(0), seed);
        due("the first DRAW of 0", x.drift(1) > 0 ? x.seed(0) : 0, third(0));
        RentedLooks none = in(TOWN);
        none.law(1);
        due("drift(1) without a dressing", none.drift(1), 0);
        CHECK.holds("draws all the same", none.seed(0) != 0);
    }

    private static long third(long seed) {
        long s = seed;
        for (int n = 0; n < 3; n++) {
            s = (s * 1103515245L + 12345L) % 2147483648L;
        }
        return s;
    }

    // Promise 24
    private static void write() {
        RentedLooks x = in(TOWN);
        due("write(0, 6)", x.write(0, 6), UNKNOWN);
        due("write(12, 6)", x.write(12, 6), UNKNOWN);
        due("write(0, -1)", x.write(0, -1), UNKNOWN);
        due("write(12, 0)", x.write(12, 0), OUTSIDE);
        due("write(-1, 0)", x.write(-1, 0), OUTSIDE);
        due("BOOK", x.told(8), 0);
        for (int n = 1; n <= 40; n++) {
            due("write(11, 5)", x.write(11, 5), n);
        }
        due("a 41st", x.write(0, 0), FULL);
        due("a 41st of no PART", x.write(0, 6), UNKNOWN);
        due("a 41st in no HOUR", x.write(12, 0), OUTSIDE);
        due("BOOK", x.told(8), 40);
        due("the second is as the first", x.judge(), 1);
    }

    // Promise 25
    private static void tear() {
        RentedLooks x = in(TOWN);
        x.see(0, 20);
        x.see(0, 20);
        x.write(0, 3);
        due("tear()", x.tear(), 3);
        due("SEEN", x.told(7), 0);
        due("BOOK", x.told(8), 0);
        due("strange()", x.strange(), NONE);
        due("judge()", x.judge(), NONE);
        due("seen(0, 0)", x.seen(0, 0), NONE);
        due("tear() again", x.tear(), 0);
        due("write() anew", x.write(0, 0), 1);
        due("see() anew", x.see(0, 9), 1);
    }

    // Promise 26
    private static void judge() {
        RentedLooks x = in(TOWN);
        due("an empty BOOK", x.judge(), NONE);
        x.write(3, 0);
        x.write(3, 1);
        x.write(4, 0);
        due("LAW 0", x.judge(), NONE);
        x.law(1);
        due("LAW 1: told in the HOUR ahead", x.judge(), 2);
        x.law(0);
        x.write(3, 1);
        due("told in that HOUR", x.judge(), 3);
        x.tear();
        x.write(6, 1);
        due("not free behind B", x.judge(), 0);
        x.tear();
        x.write(1, 3);
        due("not free ahead of A", x.judge(), 0);
        x.tear();
        x.write(2, 3);
        x.write(8, 3);
        due("free at A and at B", x.judge(), NONE);
        x.tear();
        x.law(1);
        x.write(4, 0);
        x.write(6, 0);
        due("with an HOUR between", x.judge(), NONE);
        x.write(3, 0);
        due("told in the HOUR behind", x.judge(), 2);
        x.tear();
        x.write(0, 0);
        x.write(11, 0);
        due("11 and 0 are not side by side", x.judge(), NONE);
        // What clashes, or makes no LOOK, is not asked for.
        x.tear();
        x.write(0, 0);
        x.write(0, 5);
        due("clashing PARTS", x.judge(), NONE);
    }

    // Promise 27
    private static void seed() {
        RentedLooks x = new RentedLooks();
        due("seed(5)", x.seed(5), 0);
        due("seed(-1)", x.seed(-1), OUTSIDE);
        due("seed(LOW)", x.seed(LOW), OUTSIDE);
        due("seed(HIGH)", x.seed(HIGH), 5);
        due("seed(0)", x.seed(0), HIGH);
        RentedLooks y = in("part brow 0 1 50 0 11;");
        y.seed(HIGH);
        y.drift(1);
        due("a DRAW from the highest", y.seed(0), (HIGH * 1103515245L + 12345L) % 2147483648L);
    }

    // Promises 28 and 29
    private static void keepAndGoBack() {
        RentedLooks x = in(TOWN);
        due("goBack(0) of none", x.goBack(0), NOT);
        due("goBack(2)", x.goBack(2), UNKNOWN);
        due("goBack(-1)", x.goBack(-1), UNKNOWN);
        due("keep(2)", x.keep(2), UNKNOWN);
        due("keep(-1)", x.keep(-1), UNKNOWN);
        due("keep(HIGH)", x.keep(HIGH), UNKNOWN);
        x.seed(9);
        x.day(1);
        due("keep(1)", x.keep(1), 1);
        due("goBack(0): the other", x.goBack(0), NOT);
        x.seed(123);
        x.price(0, 99);
        x.width(0, 4);
        x.day(3);
        x.law(1);
        x.see(0, 1);
        x.write(0, 0);
        due("keep(0)", x.keep(0), 1);
        for (int round = 0; round < 2; round++) {
            due("goBack(1)", x.goBack(1), 1);
            due("PRICE", x.part(0, 3), 10);
            due("WIDTH", x.part(0, 2), 3);
            due("WORN", x.part(1, 7), 3);
            due("SPENT", x.told(5), 69);
            due("days", x.told(6), 1);
            due("LAW", x.told(4), 0);
            due("THE SEED", x.seed(0), 9);
            due("SEEN stays", x.told(7), 1);
            due("BOOK stays", x.told(8), 1);
            x.price(0, 1);
            x.day(1);
        }
        due("goBack(0)", x.goBack(0), 1);
        due("PRICE", x.part(0, 3), 99);
        due("WIDTH", x.part(0, 2), 4);
        due("days", x.told(6), 4);
        due("LAW", x.told(4), 1);
        due("THE SEED", x.seed(0), 123);
        x.price(0, 7);
        due("keep(0) again", x.keep(0), 1);
        x.price(0, 8);
        due("goBack(0)", x.goBack(0), 1);
        due("the latest", x.part(0, 3), 7);
    }
}
