/** The edges of what a town answers, sentence by sentence of the document. */
public final class TownEdgesTest {
    private static final int NONE = -1, UNKNOWN = -1000000001, OUTSIDE = -1000000002, NOT = -1000000003, FULL = -1000000004;

    // One LOOK, 1 wide each, of landlords 0, 1, 2.
    private static final String ONE = "part brow 0 1 5 0 11;part eyes 1 1 6 0 11;part mouth 2 1 7 0 11;";
    // Two LOOKS that share no PART: {0,1,2} for 3 and {3,4,5} for 30.
    private static final String TWO = "part brow 0 1 1 0 11;part eyes 0 1 1 0 11;part mouth 0 1 1 0 11;"
        + "part brow 1 1 10 0 11;part eyes 1 1 10 0 11;part mouth 1 1 10 0 11;"
        + "clash 0 4;clash 0 5;clash 3 1;clash 3 2;clash 1 5;clash 4 2;";
    private static final String NINE = "part brow0 1 1 0 11;".repeat(3) + "part eyes1 1 1 0 11;".repeat(3)
        + "part mouth2 1 1 0 11;".repeat(3);

    private static final Check CHECK = new Check("TownEdgesTest");

    public static void main(String[] args) {
        looksAreInOrder();
        tenPartsInEachCall();
        freeInAnHourInWhichAllThreeAre();
        ofAWidthThatItNeeds();
        cheapestOfLikeOnesTheFirst();
        looksOfOneHourShareNoPart();
        lawZeroAtFirst();
        byLawOneInAnHourAndTheNext();
        ofLikeOnesTheLesserSet();
        rentIsNothingWithoutADressing();
        withoutNoneThenOrNoneNow();
        raiseFromNoneToTwenty();
        raiseNinetyNineAtMost();
        raiseOfLikeOnesTheLeast();
        widthsFromNoneToTwentySeven();
        growFromNoneToNine();
        growOfLikeOnes();
        growNoneWithoutParts();
        weddingSharesNoPart();
        weddingOfLikeOnes();
        twentySeenAtMost();
        seenSoWide();
        strangeTheFirst();
        fortyEntriesAtMost();
        wrongTheFirst();
        wrongByLawOne();
        tearBoth();
        oneToNineDays();
        tenHoursOrMore();
        widthNotBelowNone();
        noDressingNoneWorn();
        seedBounds();
        seedLeftOver();
        drawsStopAtBounds();
        drawsAheadOfTheDay();
        pricesAndWidthsAtTheirBounds();
        imagesKeepAllThis();
        imagesKeepNothingElse();
        imagesAreTwo();
        spentAtMost();
        CHECK.close();
    }

    private static void due(String what, long got, long want) {
        CHECK.due(what, got, want);
    }

    private static RentedLooks in(String text) {
        return Check.inTown(text);
    }

    // "The i-th LOOK .. NONE: not so many (i below 0, too)"; "the lesser brow first, then the lesser eyes, then the lesser mouth"
    private static void looksAreInOrder() {
        RentedLooks x = in(NINE + "part mouth 3 9 9 0 11;");
        due("LOOKS: 3 brows, 3 eyes, 4 mouths", x.told(9), 36);
        int i = 0;
        for (int b = 0; b < 3; b++) {
            for (int e = 3; e < 6; e++) {
                for (int m = 6; m < 10; m++) {
                    due("look(" + i + ", 0)", x.look(i, 0), 1 << b | 1 << e | 1 << m);
                    due("look(" + i + ", 1)", x.look(i, 1), m == 9 ? 11 : 3);
                    due("look(" + i + ", 2)", x.look(i, 2), m == 9 ? 11 : 3);
                    i++;
                }
            }
        }
        for (int out : new int[] {36, 37, -1, -2, 64, 256, Integer.MAX_VALUE, Integer.MIN_VALUE}) {
            for (int what = 0; what < 3; what++) {
                due("look(" + out + ", " + what + ")", x.look(out, what), NONE);
            }
            due("look(" + out + ", 3)", x.look(out, 3), OUTSIDE);
        }
        for (int what = 0; what < 3; what++) {
            due("look(0, " + what + ") without PARTS", new RentedLooks().look(0, what), NONE);
        }
    }

    // "(10 PARTS at most ..)", "numbered so": the tenth PART counts in each call
    private static void tenPartsInEachCall() {
        RentedLooks x = in(NINE + "part mouth 3 1 0 4 11;scene 3 0 27;scene 4 0 27;scene 4 0 27;scene 11 0 27;");
        due("dressing(NONE)", x.dressing(NONE), 3 + 5 + 2);
        due("the first at HOUR 3", x.dressing(0), 1 | 8 | 64);
        due("the first at HOUR 4", x.dressing(1), 1 | 8 | 64);
        due("the second at HOUR 4", x.dressing(2), 2 | 16 | 512);
        due("the last", x.dressing(3), 1 | 8 | 512);
        int[] rent = {4, 4, 2, 0};
        int[] without = {NONE, NONE, NONE, 2};
        for (int l = 0; l < 4; l++) {
            due("rent(" + l + ")", x.rent(l), rent[l]);
            due("without(" + l + ")", x.without(l), without[l]);
        }
        due("cheapest(1, 0)", x.cheapest(1, 0), 1 | 8 | 512);
        due("raise(3, 0): dearer by one it is worn no more", x.raise(3, 0), 0);
        due("raise(3, 1): the lesser SETS of like PRICE have none of it", x.raise(3, 1), 0);
        due("wedding(3, 1)", x.wedding(3, 1), 1 | 8 | 64 | 2 | 16 | 128);
        due("wedding(4, 1)", x.wedding(4, 1), 1 | 8 | 64 | 2 | 16 | 512);
        due("wedding(4, 0)", x.wedding(4, 0), 5);
        due("write(3, 9)", x.write(3, 9), 1);
        due("not free at 3", x.judge(), 0);
        due("see(11, 3)", x.see(11, 3), 1);
        due("MAY", x.seen(0, 0), 1023);
        due("SURE", x.seen(0, 1), 0);
        due("day(1)", x.day(1), 10);
        due("HOURS WORN", x.part(9, 7), 2);
        due("width(9, 9)", x.width(9, 9), 1);
        due("told(10)", x.told(10), 1 << 3 | 1 << 11);
        due("price(9, 7)", x.price(9, 7), 0);
        due("look(35, 2)", x.look(35, 2), 9);
    }

    /** PART k of three alone is free from 3 to 8; the other two always. */
    private static RentedLooks freeFromThreeToEight(int k, int hour) {
        String[] kinds = {"brow", "eyes", "mouth"};
        StringBuilder text = new StringBuilder();
        for (int p = 0; p < 3; p++) {
            text.append("part ").append(kinds[p]).append(" 0 1 1 ").append(p == k ? "3 8;" : "0 11;");
        }
        return in(text + "part brow1 1 1 0 11;part eyes1 1 1 0 11;part mouth1 1 1 0 11;clash 0 4;clash 0 5;clash 3 1;"
            + "clash 3 2;clash 1 5;clash 4 2;scene " + hour + " 0 27;scene " + hour + " 0 27;");
    }

    // "It is free in an HOUR in which all three are"; "free from HOUR A to HOUR B"
    private static void freeInAnHourInWhichAllThreeAre() {
        for (int k = 0; k < 3; k++) {
            for (int h = 0; h < 12; h++) {
                boolean free = h >= 3 && h <= 8;
                String where = " with PART " + k + " in HOUR " + h;
                RentedLooks x = freeFromThreeToEight(k, h);
                due("LOOKS", x.told(9), 2);
                due("cheapest(0, 0)" + where, x.cheapest(0, 0), free ? 7 : 56);
                due("dressing(NONE)" + where, x.dressing(NONE), free ? 6 : NONE);
                due("wedding" + where, x.wedding(h, 0), free ? 6 : NONE);
                x.see(h, 3);
                due("MAY" + where, x.seen(0, 0), free ? 63 : 56);
                due("SURE" + where, x.seen(0, 1), free ? 0 : 56);
                x.write(h, k);
                due("judge()" + where, x.judge(), free ? NONE : 0);
                x.width(3, 2);
                due("strange()" + where, x.strange(), free ? NONE : 0);
            }
        }
        RentedLooks one = in("part brow 0 1 1 5 5;part eyes 0 1 1 0 5;part mouth 0 1 1 5 11;scene 4 0 27;scene 5 0 27;scene 6 0 27;");
        int[] want = {NONE, 3, NONE};
        for (int s = 0; s < 3; s++) {
            due("free in one HOUR alone, " + s, one.cheapest(s, 1), want[s]);
        }
    }

    // "FOR a SCENE: free in its HOUR, of a WIDTH that it needs": U to V
    private static void ofAWidthThatItNeeds() {
        for (int w = 0; w <= 27; w++) {
            int below = Math.max(0, w - 1);
            int above = Math.min(27, w + 1);
            RentedLooks x = in(ONE + "scene 0 0 " + below + ";scene 0 " + w + " " + w + ";scene 0 " + above + " 27;scene 0 0 " + w
                + ";scene 0 " + w + " 27;");
            x.width(0, w / 3);
            x.width(1, (w + 1) / 3);
            x.width(2, (w + 2) / 3);
            due("WIDTH", x.look(0, 1), w);
            due("above V, " + w, x.cheapest(0, 0), w == 0 ? 7 : NONE);
            due("U and V, " + w, x.cheapest(1, 0), 7);
            due("below U, " + w, x.cheapest(2, 0), w == 27 ? 7 : NONE);
            due("V, " + w, x.cheapest(3, 0), 7);
            due("U, " + w, x.cheapest(4, 0), 7);
        }
        for (int w = 1; w <= 5; w++) {
            RentedLooks y = in(ONE + "scene 0 2 4;");
            y.width(0, 0);
            y.width(1, 0);
            y.width(2, w);
            due("a dressing of 2 to 4, " + w, y.dressing(NONE), w >= 2 && w <= 4 ? 18 : NONE);
        }
    }

    // "CHEAPEST .. the LOOK of the least PRICE, of like ones the first; NONE."
    private static void cheapestOfLikeOnesTheFirst() {
        RentedLooks x = in(NINE + "scene 0 0 27;scene 0 4 27;scene 0 0 2;");
        due("all alike", x.cheapest(0, 0), 1 | 8 | 64);
        due("nobody so wide", x.cheapest(1, 0), NONE);
        due("nor for a PRICE", x.cheapest(1, 1), NONE);
        due("nobody so narrow", x.cheapest(2, 0), NONE);
        x.price(0, 2);
        due("the second brow", x.cheapest(0, 0), 2 | 8 | 64);
        x.price(0, 1);
        x.price(8, 0);
        due("the last mouth", x.cheapest(0, 0), 1 | 8 | 256);
        for (int p = 0; p < 9; p++) {
            x.price(p, 0);
        }
        due("a PRICE of 0", x.cheapest(0, 1), 0);
        for (int p = 0; p < 9; p++) {
            x.price(p, 99);
        }
        due("a PRICE of 297", x.cheapest(0, 1), 297);
        due("the first again", x.cheapest(0, 0), 1 | 8 | 64);
    }

    // "LOOKS of one HOUR share no PART"; "0 without SCENES"; "NONE: there is none"
    private static void looksOfOneHourShareNoPart() {
        int[] want = {0, 3, 6, 9, NONE, NONE, NONE, NONE, NONE};
        for (int many = 0; many <= 8; many++) {
            RentedLooks x = in(NINE + "scene 5 0 27;".repeat(many));
            due(many + " SCENES at once", x.dressing(NONE), want[many]);
            for (int s = 0; s < many; s++) {
                due("the LOOK of SCENE " + s + " of " + many, x.dressing(s), many > 3 ? NONE : 1 << s | 8 << s | 64 << s);
            }
            due("another SCENE", x.dressing(many), UNKNOWN);
        }
        StringBuilder eight = new StringBuilder(ONE);
        for (int h = 4; h < 12; h++) {
            eight.append("scene ").append(h).append(" 0 27;");
        }
        RentedLooks y = in(eight.toString());
        for (int p = 0; p < 3; p++) {
            y.price(p, 99);
        }
        due("one LOOK for eight HOURS", y.dressing(NONE), 8 * 297);
        for (int p = 0; p < 3; p++) {
            y.price(p, 0);
        }
        due("for nothing", y.dressing(NONE), 0);
        due("yet worn", y.dressing(7), 7);
        RentedLooks none = new RentedLooks();
        due("no town", none.dressing(NONE), 0);
        due("no SCENE 0", none.dressing(0), UNKNOWN);
        // PARTS of two LOOKS of one HOUR may clash with one another.
        due("clashing ones at once", in(TWO + "scene 0 0 27;scene 0 0 27;").dressing(NONE), 33);
    }

    // "(LAW 0, at first: it may be)"
    private static void lawZeroAtFirst() {
        RentedLooks x = in(ONE + "scene 3 0 27;scene 4 0 27;");
        due("LAW", x.told(4), 0);
        due("worn in an HOUR and in the next one", x.dressing(NONE), 36);
        due("law(1)", x.law(1), 0);
        due("town() leaves LAW", Check.town(x, ONE + "scene 3 0 27;scene 4 0 27;"), 3);
        due("LAW", x.told(4), 1);
        due("none by LAW 1", x.dressing(NONE), NONE);
    }

    // "by LAW 1 no PART is worn in an HOUR and in the next one, too"
    private static void byLawOneInAnHourAndTheNext() {
        for (int g = 0; g < 12; g++) {
            for (int h = 0; h < 12; h++) {
                RentedLooks x = in(ONE + "scene " + g + " 0 27;scene " + h + " 0 27;");
                due("LAW 0, " + g + " and " + h, x.dressing(NONE), g == h ? NONE : 36);
                x.law(1);
                due("LAW 1, " + g + " and " + h, x.dressing(NONE), Math.abs(g - h) < 2 ? NONE : 36);
            }
        }
        // One PART alone is shared: the eyes.
        RentedLooks y = in("part brow 0 1 1 0 5;part eyes 0 1 1 0 11;part mouth 0 1 1 0 5;part brow 0 1 1 6 11;"
            + "part mouth 0 1 1 6 11;scene 5 0 27;scene 6 0 27;");
        due("LAW 0", y.dressing(NONE), 6);
        y.law(1);
        due("LAW 1", y.dressing(NONE), NONE);
        RentedLooks z = in(TWO + "scene 0 0 27;scene 1 0 27;scene 2 0 27;");
        z.law(1);
        due("by turns, the cheap one twice", z.dressing(NONE), 36);
        due("HOUR 1", z.dressing(1), 56);
    }

    // "of like ones HOUR by HOUR the lesser SET of PARTS worn, with it SCENE by SCENE the first LOOK"
    private static void ofLikeOnesTheLesserSet() {
        RentedLooks x = in(NINE + "scene 9 0 27;scene 9 0 27;");
        due("the first SCENE", x.dressing(0), 1 | 8 | 64);
        due("the second SCENE", x.dressing(1), 2 | 16 | 128);
        x.width(0, 9);
        due("by SCENE, as wide as it may", x.dressing(0), 1 | 8 | 64);
        RentedLooks y = in(NINE + "scene 9 0 3;scene 9 0 27;");
        y.width(0, 9);
        due("the lesser SET counts ahead of the first LOOK", y.dressing(0), 2 | 8 | 64);
        due("the wide brow is in the SET", y.dressing(1), 1 | 16 | 128);
        // SET 14 is less than SET 21, though the LOOK {0,2,4} comes first.
        RentedLooks z = in("part brow 0 1 2 0 11;part eyes 0 1 2 0 11;part mouth 0 1 2 0 11;part brow 0 1 2 0 11;"
            + "part eyes 0 1 2 0 11;clash 0 1;clash 3 4;scene 0 0 27;scene 1 0 27;");
        z.law(0);
        due("HOUR 0", z.dressing(0), 14);
        due("HOUR 1", z.dressing(1), 14);
        z.price(1, 3);
        due("the cheaper one", z.dressing(0), 21);
    }

    // "RENT .. each HOUR (0 without one)"
    private static void rentIsNothingWithoutADressing() {
        RentedLooks x = in(ONE + "scene 3 0 27;scene 4 0 27;");
        int[] want = {10, 12, 14, 0};
        for (int l = 0; l < 4; l++) {
            due("rent(" + l + ")", x.rent(l), want[l]);
        }
        x.law(1);
        for (int l = 0; l < 4; l++) {
            due("rent(" + l + ") without a dressing", x.rent(l), 0);
        }
        due("rent(4)", x.rent(4), OUTSIDE);
        due("rent(-1)", x.rent(-1), OUTSIDE);
        due("rent(3) of the last LANDLORD", in(ONE.replace("mouth 2", "mouth 3") + "scene 0 0 27;").rent(3), 7);
        due("without SCENES", in(ONE).rent(0), 0);
    }

    // "NONE: there is none then, or none now"
    private static void withoutNoneThenOrNoneNow() {
        RentedLooks x = in(TWO + "scene 3 0 27;");
        due("without the cheap ones", x.without(0), 27);
        due("without the dear ones", x.without(1), 0);
        due("without one who has none", x.without(3), 0);
        due("the dressing is as it was", x.dressing(NONE), 3);
        RentedLooks both = in(TWO + "scene 3 0 27;scene 3 0 27;");
        due("none then", both.without(0), NONE);
        due("none then", both.without(1), NONE);
        due("as now", both.without(2), 0);
        RentedLooks three = in(TWO + "scene 3 0 27;".repeat(3));
        for (int l = 0; l < 4; l++) {
            due("none now, without(" + l + ")", three.without(l), NONE);
        }
        RentedLooks no = new RentedLooks();
        due("without SCENES", no.without(0), 0);
        due("without(4)", no.without(4), OUTSIDE);
        due("without(-1)", no.without(-1), OUTSIDE);
        // By LAW 1, too.
        RentedLooks law = in(TWO + "scene 3 0 27;scene 4 0 27;");
        due("LAW 0", law.without(1), 0);
        law.law(1);
        due("LAW 1", law.without(1), NONE);
    }

    // "of 0 to 20 more an HOUR for each of its PARTS"
    private static void raiseFromNoneToTwenty() {
        // Two brows alike but for the PRICE: landlord 0 may ask as much as the dear one less one HOUR's.
        for (int dear = 5; dear <= 30; dear++) {
            RentedLooks x = in("part brow 0 1 5 0 11;part eyes 2 1 0 0 11;part mouth 2 1 0 0 11;part brow 1 1 " + dear
                + " 0 11;scene 0 0 27;");
            due("raise(0, 0) beside " + dear, x.raise(0, 0), Math.min(20, dear - 5));
            due("raise(0, 1) beside " + dear, x.raise(0, 1), Math.min(25, dear));
        }
        // Ahead of the dear one by number: alike is not enough.
        RentedLooks y = in("part brow 1 1 25 0 11;part eyes 2 1 0 0 11;part mouth 2 1 0 0 11;part brow 0 1 5 0 11;scene 0 0 27;");
        due("one less", y.raise(0, 0), 19);
        due("one less", y.raise(0, 1), 24);
        RentedLooks all = in(ONE.replace("eyes 1", "eyes 0") + "scene 0 0 27;scene 11 0 27;");
        due("two PARTS, two HOURS", all.raise(0, 0), 20);
        due("two PARTS, two HOURS", all.raise(0, 1), 2 * (25 + 26));
        due("PRICES are as they were", all.part(0, 3), 5);
        due("raise(3, 0) without PARTS", all.raise(3, 0), 0);
        due("raise(3, 1) without PARTS", all.raise(3, 1), 0);
        for (int l : new int[] {-1, 4}) {
            due("raise(" + l + ", 0)", all.raise(l, 0), OUTSIDE);
        }
        for (int what : new int[] {-1, 2}) {
            due("raise(0, " + what + ")", all.raise(0, what), OUTSIDE);
        }
    }

    // "(99 at most each)"
    private static void raiseNinetyNineAtMost() {
        int[] prices = {78, 79, 80, 98, 99};
        int[] by = {20, 20, 19, 1, 0};
        for (int k = 0; k < 5; k++) {
            RentedLooks x = in(ONE + "scene 0 0 27;");
            x.price(0, prices[k]);
            due("raise(0, 0) at " + prices[k], x.raise(0, 0), by[k]);
            due("raise(0, 1) at " + prices[k], x.raise(0, 1), Math.min(99, prices[k] + 20));
        }
        RentedLooks y = in(ONE.replace("eyes 1", "eyes 0") + "scene 0 0 27;");
        y.price(0, 95);
        due("each of them by itself", y.raise(0, 1), 99 + 26);
        due("as long as one still rises", y.raise(0, 0), 20);
    }

    // "that by which its RENT is greatest; of like ones the least"
    private static void raiseOfLikeOnesTheLeast() {
        // Two HOURS at 5 are 10, at 6 one HOUR goes elsewhere: with 4 more the other HOUR alone is 9, with 5 more 10.
        RentedLooks x = in("part brow 0 1 5 0 11;part eyes 2 1 0 0 11;part mouth 2 1 0 0 11;part brow 1 1 5 0 3;part brow 1 1 10 0 11;"
            + "scene 2 0 27;scene 9 0 27;");
        due("of 10 by 0 and 10 by 5", x.raise(0, 0), 0);
        due("the RENT of both", x.raise(0, 1), 10);
        x.price(4, 11);
        due("11 by 6", x.raise(0, 0), 6);
        due("11 by 6", x.raise(0, 1), 11);
        due("never a dressing", in(ONE + "scene 0 0 2;").raise(0, 0), 0);
        due("never a dressing", in(ONE + "scene 0 0 2;").raise(0, 1), 0);
    }

    // "WIDTHS that some LOOK has, whenever (a SET of 0 to 27)"
    private static void widthsFromNoneToTwentySeven() {
        for (int w = 0; w <= 27; w++) {
            RentedLooks x = in("part brow 0 0 1 0 0;part eyes 0 0 1 5 5;part mouth 0 0 1 9 9;");
            x.width(0, w / 3);
            x.width(1, (w + 1) / 3);
            x.width(2, (w + 2) / 3);
            due("told(10) of one LOOK " + w + " wide, that is never free", x.told(10), 1 << w);
        }
        due("without LOOKS", in(ONE + "clash 0 1;").told(10), 0);
        RentedLooks y = in("part brow0 0 1 0 1;part brow0 9 1 0 1;part eyes0 0 1 0 1;part eyes0 9 1 0 1;part mouth0 0 1 0 1;part mouth0 9 1 0 1;");
        due("0, 9, 18, 27", y.told(10), 1 | 1 << 9 | 1 << 18 | 1 << 27);
    }

    // "a PART and a WIDTH for it in place of its own (0 to 9; its own, too)"
    private static void growFromNoneToNine() {
        RentedLooks nine = in("part mouth 0 0 1 0 1;part eyes 0 0 1 0 1;" + "part brow 0 0 1 0 1;".repeat(8));
        for (int p = 2; p < 9; p++) {
            nine.width(p, p);
        }
        nine.width(9, 2);
        // 2 to 8 are there, 2 twice: 0 is the least that none has; then, with 0 and 1 in place of 2 and 2, 9 is.
        due("0 wide", nine.grow(1), 0);
        due("the first of both", nine.grow(0), 2);
        due("eight", nine.grow(2), 8);
        nine.width(2, 0);
        nine.width(9, 1);
        due("nobody can make more by 9: 0, 3 to 8, 1 are eight", nine.grow(2), 8);
        due("its own WIDTH", nine.grow(0), 0);
        RentedLooks own = in(ONE);
        due("its own, too: PART 0", own.grow(0), 0);
        due("the lesser WIDTH", own.grow(1), 0);
        due("one", own.grow(2), 1);
        RentedLooks last = in("part eyes0 8 1 0 1;part mouth0 0 1 0 1;part brow0 0 1 0 1;part brow0 1 1 0 1;"
            + "part brow0 2 1 0 1;part brow0 3 1 0 1;part brow0 4 1 0 1;part eyes0 4 1 0 1;");
        due("9 wide", last.grow(1), 9);
        due("ten", last.grow(2), 10);
        due("WIDTHS are as they were", last.part(0, 2), 8);
        due("told(10) is as it was", last.told(10), 31 << 8 | 31 << 4);
        due("grow(-1)", last.grow(-1), OUTSIDE);
        due("grow(3)", last.grow(3), OUTSIDE);
    }

    // "of like ones the lesser PART, then the lesser WIDTH"
    private static void growOfLikeOnes() {
        RentedLooks x = in("part brow 0 5 1 0 1;part brow 0 5 1 0 1;part eyes 0 5 1 0 1;part mouth 0 5 1 0 1;");
        due("the lesser of two brows", x.grow(0), 0);
        due("0 ahead of 1 to 9", x.grow(1), 0);
        due("two", x.grow(2), 2);
        x.width(0, 0);
        due("already two: its own WIDTH is the least", x.grow(1), 0);
        x.width(0, 5);
        x.width(1, 0);
        due("PART 0, with 1 in place of 5", x.grow(0), 0);
        due("PART 0, with 1 in place of 5", x.grow(1), 1);
        RentedLooks none = in("part eyes 0 5 1 0 1;part mouth 0 5 1 0 1;");
        int[] want = {0, 0, 0};
        for (int what = 0; what < 3; what++) {
            due("PARTS without a LOOK, grow(" + what + ")", none.grow(what), want[what]);
        }
    }

    // "NONE without PARTS"
    private static void growNoneWithoutParts() {
        for (RentedLooks x : new RentedLooks[] {new RentedLooks(), in(""), in("scene 0 0 27;")}) {
            for (int what = 0; what < 3; what++) {
                due("grow(" + what + ") without PARTS", x.grow(what), NONE);
            }
        }
    }

    // "two LOOKS that are free, share no PART, and are of one WIDTH .. NONE"
    private static void weddingSharesNoPart() {
        RentedLooks x = in(TWO);
        for (int h = 0; h < 12; h++) {
            due("wedding(" + h + ", 0)", x.wedding(h, 0), 33);
            due("wedding(" + h + ", 1)", x.wedding(h, 1), 63);
        }
        for (int h : new int[] {-1, 12, 256, Integer.MIN_VALUE, Integer.MAX_VALUE}) {
            due("wedding(" + h + ", 0)", x.wedding(h, 0), OUTSIDE);
        }
        due("wedding(0, -1)", x.wedding(0, -1), OUTSIDE);
        due("wedding(0, 2)", x.wedding(0, 2), OUTSIDE);
        x.width(5, 2);
        due("wider by one", x.wedding(0, 0), NONE);
        due("wider by one", x.wedding(0, 1), NONE);
        x.width(2, 2);
        due("both wider by one", x.wedding(0, 0), 33);
        for (int p = 0; p < 6; p++) {
            x.price(p, 0);
        }
        due("for nothing", x.wedding(0, 0), 0);
        for (int p = 0; p < 6; p++) {
            x.price(p, 99);
        }
        due("the dearest", x.wedding(0, 0), 594);
        RentedLooks shared = in("part brow 0 1 1 0 11;part brow 0 1 1 0 11;part eyes 0 1 1 0 11;part eyes 0 1 1 0 11;part mouth 0 1 1 0 11;");
        due("four LOOKS of one WIDTH, one mouth", shared.wedding(0, 0), NONE);
        due("one LOOK", in(ONE).wedding(0, 0), NONE);
        due("no LOOK", new RentedLooks().wedding(11, 1), NONE);
    }

    // "of like ones the first LOOK that comes first, then the other"
    private static void weddingOfLikeOnes() {
        RentedLooks x = in(NINE);
        due("LOOK 0 and the first that shares no PART with it", x.wedding(0, 1), 1 | 8 | 64 | 2 | 16 | 128);
        x.price(8, 0);
        due("the cheap mouth: the first LOOK with another", x.wedding(0, 1), 1 | 8 | 64 | 2 | 16 | 256);
        x.price(8, 1);
        x.width(0, 9);
        due("the wide brow weds nobody", x.wedding(0, 1), 2 | 8 | 64 | 4 | 16 | 128);
    }

    // "SEEN (20 at most)"; "OUTSIDE, FULL (20)"; "(HOUR 0 .. 11, WIDTH 0 .. 27): how many"
    private static void twentySeenAtMost() {
        RentedLooks x = in(ONE);
        for (int n = 0; n < 20; n++) {
            due("see() " + n, x.see(n % 2 * 11, n % 3 == 0 ? 0 : 27), n + 1);
        }
        due("the 21st", x.see(0, 3), FULL);
        due("SEEN", x.told(7), 20);
        due("the last is there", x.seen(19, 0), 0);
        due("the 21st is not", x.seen(20, 0), NONE);
        due("the 21st is not", x.seen(20, 1), NONE);
        for (int i : new int[] {-1, 21, Integer.MIN_VALUE, Integer.MAX_VALUE}) {
            due("seen(" + i + ", 0)", x.seen(i, 0), NONE);
            due("seen(" + i + ", 2)", x.seen(i, 2), OUTSIDE);
        }
        due("tear()", x.tear(), 20);
        due("see() behind it", x.see(0, 3), 1);
        due("what was torn is gone", x.seen(1, 0), NONE);
        due("the new one", x.seen(0, 0), 7);
    }

    // "MAY: PARTS of all LOOKS that are free then, so wide; SURE: PARTS that all of these have"; "0 both, if there is no LOOK"
    private static void seenSoWide() {
        for (int w = 0; w <= 27; w++) {
            RentedLooks x = in(ONE);
            x.width(0, w / 3);
            x.width(1, (w + 1) / 3);
            x.width(2, (w + 2) / 3);
            x.see(0, w);
            x.see(11, Math.max(0, w - 1));
            x.see(11, Math.min(27, w + 1));
            due("MAY " + w, x.seen(0, 0), 7);
            due("SURE " + w, x.seen(0, 1), 7);
            due("MAY, seen less wide than " + w, x.seen(1, 0), w == 0 ? 7 : 0);
            due("SURE, seen less wide than " + w, x.seen(1, 1), w == 0 ? 7 : 0);
            due("MAY, seen wider than " + w, x.seen(2, 0), w == 27 ? 7 : 0);
            due("SURE, seen wider than " + w, x.seen(2, 1), w == 27 ? 7 : 0);
        }
        RentedLooks y = in(NINE);
        y.see(0, 3);
        due("MAY: all", y.seen(0, 0), 511);
        due("SURE: none", y.seen(0, 1), 0);
        y.width(0, 2);
        y.see(0, 4);
        due("MAY: all with brow 0", y.seen(1, 0), 1 | 504);
        due("SURE: brow 0", y.seen(1, 1), 1);
        y.see(0, 5);
        due("no LOOK", y.seen(2, 0), 0);
        due("no LOOK", y.seen(2, 1), 0);
        RentedLooks none = new RentedLooks();
        none.see(0, 0);
        due("no PARTS", none.seen(0, 0), 0);
        due("no PARTS", none.seen(0, 1), 0);
    }

    // "STRANGE: the first for which there is no such LOOK; NONE."
    private static void strangeTheFirst() {
        RentedLooks x = in(ONE);
        due("nothing SEEN", x.strange(), NONE);
        for (int n = 0; n < 19; n++) {
            x.see(n % 12, 3);
        }
        due("19 that are not", x.strange(), NONE);
        x.see(0, 4);
        due("the 20th", x.strange(), 19);
        x.width(0, 2);
        due("all but the 20th", x.strange(), 0);
        x.tear();
        due("nothing SEEN", x.strange(), NONE);
        x.see(0, 0);
        due("the first", x.strange(), 0);
    }

    // "(40 at most: HOUR, PART)"; "UNKNOWN, OUTSIDE (HOUR), FULL (40)"
    private static void fortyEntriesAtMost() {
        RentedLooks x = in(ONE);
        for (int n = 0; n < 36; n++) {
            due("write() " + n, x.write(n % 12, n / 12), n + 1);
        }
        due("all HOURS, all PARTS", x.judge(), NONE);
        for (int n = 36; n < 39; n++) {
            x.write(0, 0);
        }
        due("the first of those told again", x.judge(), 36);
        due("the 40th", x.write(11, 2), 40);
        due("the 41st", x.write(11, 2), FULL);
        due("entries", x.told(8), 40);
        for (int h : new int[] {-1, 12, 256, Integer.MIN_VALUE, Integer.MAX_VALUE}) {
            due("write(" + h + ", 0)", x.write(h, 0), OUTSIDE);
        }
        for (int p : new int[] {-1, 3, 10, Integer.MIN_VALUE, Integer.MAX_VALUE}) {
            due("write(0, " + p + ")", x.write(0, p), UNKNOWN);
        }
        due("tear()", x.tear(), 40);
        due("an empty BOOK", x.judge(), NONE);
        due("write() behind it", x.write(11, 2), 1);
        due("what was torn is not told ahead", x.judge(), NONE);
    }

    // "WRONG: the first that was not free, or was told ahead of it in that HOUR"
    private static void wrongTheFirst() {
        RentedLooks x = in("part brow 0 1 1 4 6;part eyes 0 1 1 0 11;");
        int[] want = {0, 0, 0, 0, NONE, NONE, NONE, 0, 0, 0, 0, 0};
        for (int h = 0; h < 12; h++) {
            x.write(h, 0);
            due("free from 4 to 6: " + h, x.judge(), want[h]);
            x.tear();
        }
        for (int h = 0; h < 12; h++) {
            x.write(h, 1);
            x.write(h, 1);
            due("told again in HOUR " + h, x.judge(), 1);
            x.tear();
        }
        x.write(5, 0);
        x.write(5, 1);
        due("another PART in that HOUR", x.judge(), NONE);
        for (int n = 0; n < 36; n++) {
            x.write(n % 12, 1);
        }
        due("HOUR 5, eyes, again", x.judge(), 7);
        x.tear();
        for (int h = 0; h < 12; h++) {
            x.write(h, 1);
        }
        x.write(3, 0);
        x.write(3, 1);
        due("the first of two that are WRONG", x.judge(), 12);
        x.tear();
        x.write(4, 0);
        x.write(6, 0);
        x.write(4, 1);
        x.write(4, 0);
        due("told three entries ahead", x.judge(), 3);
        x.tear();
        for (int n = 0; n < 12; n++) {
            x.write(n, 1);
        }
        for (int n = 0; n < 3; n++) {
            x.write(4 + n, 0);
        }
        due("none in fifteen", x.judge(), NONE);
    }

    // "or by LAW 1 in the one ahead or behind"
    private static void wrongByLawOne() {
        for (int g = 0; g < 12; g++) {
            for (int h = 0; h < 12; h++) {
                RentedLooks x = in(ONE);
                x.write(g, 2);
                x.write(h, 2);
                due("LAW 0, HOURS " + g + " and " + h, x.judge(), g == h ? 1 : NONE);
                x.law(1);
                due("LAW 1, HOURS " + g + " and " + h, x.judge(), Math.abs(g - h) <= 1 ? 1 : NONE);
                x.tear();
                x.write(g, 2);
                x.write(h, 1);
                due("LAW 1, unlike PARTS in HOURS " + g + " and " + h, x.judge(), NONE);
            }
        }
        RentedLooks last = in(ONE + "part brow 0 1 1 0 11;");
        last.law(1);
        for (int n = 0; n < 39; n++) {
            last.write(n % 6 * 2, n / 6 % 4);
        }
        due("entries two HOURS apart: told again from the 25th on", last.judge(), 24);
        last.tear();
        for (int n = 0; n < 24; n++) {
            last.write(n % 6 * 2, n / 6);
        }
        due("none WRONG", last.judge(), NONE);
        last.write(11, 3);
        due("HOUR 11 beside 10", last.judge(), 24);
    }

    // "THE BOOK is empty, nothing is SEEN: how many both had."
    private static void tearBoth() {
        RentedLooks x = in(ONE);
        due("none", x.tear(), 0);
        x.see(0, 0);
        due("one SEEN", x.tear(), 1);
        x.write(0, 0);
        due("one entry", x.tear(), 1);
        for (int n = 0; n < 41; n++) {
            x.write(0, 0);
            x.see(0, 0);
        }
        due("both full", x.tear(), 60);
        due("SEEN", x.told(7), 0);
        due("BOOK", x.told(8), 0);
        due("again", x.tear(), 0);
    }

    // "n DAYS (1 .. 9): what is SPENT in these. OUTSIDE."
    private static void oneToNineDays() {
        for (int n = 1; n <= 9; n++) {
            RentedLooks x = in(ONE + "scene 0 0 27;");
            due("day(" + n + ")", x.day(n), 18 * n);
            due("SPENT", x.told(5), 18 * n);
            due("days", x.told(6), n);
            due("HOURS WORN", x.part(2, 7), n);
            RentedLooks y = in("scene 0 0 27;");
            due("drift(" + n + ") without a dressing", y.drift(n), 0);
            due("days", y.told(6), n);
        }
        RentedLooks z = in(ONE + "scene 0 0 27;");
        for (int n : new int[] {0, 10, -1, 257, Integer.MIN_VALUE, Integer.MAX_VALUE}) {
            due("day(" + n + ")", z.day(n), OUTSIDE);
            due("drift(" + n + ")", z.drift(n), OUTSIDE);
        }
        due("days", z.told(6), 0);
        due("what is SPENT in these alone", z.day(1) + z.day(1), 36);
        due("SPENT", z.told(5), 36);
    }

    // "each PART has WORN an HOUR more for each one; as long as that is 10 or more, it is 10 less, and its WIDTH one less"
    private static void tenHoursOrMore() {
        RentedLooks x = in("part brow 0 9 1 0 11;part eyes 0 9 1 0 11;part mouth 0 9 1 0 11;scene 6 0 27;");
        x.day(9);
        due("9 HOURS", x.part(0, 7), 9);
        due("9 HOURS", x.part(0, 2), 9);
        x.day(1);
        due("10 HOURS", x.part(0, 7), 0);
        due("10 HOURS", x.part(0, 2), 8);
        x.day(1);
        due("11 HOURS", x.part(0, 7), 1);
        due("11 HOURS", x.part(0, 2), 8);
        RentedLooks y = in("part brow 0 9 1 0 11;part eyes 0 9 1 0 11;part mouth 0 9 1 0 11;"
            + "scene 0 0 27;scene 1 0 27;scene 2 0 27;scene 3 0 27;scene 8 0 27;scene 9 0 27;scene 10 0 27;scene 11 0 27;");
        int[] worn = {8, 6, 4, 2, 0, 8, 6, 4, 2, 0};
        int[] width = {9, 8, 7, 6, 5, 5, 4, 3, 2, 1};
        for (int d = 0; d < 10; d++) {
            y.day(1);
            due("8 HOURS a day, WORN on day " + d, y.part(1, 7), worn[d]);
            due("8 HOURS a day, WIDTH on day " + d, y.part(1, 2), width[d]);
        }
        // Two at once, each PART worn in one HOUR.
        RentedLooks two = in(TWO + "scene 5 0 27;scene 5 0 27;");
        two.day(9);
        for (int p = 0; p < 6; p++) {
            due("WORN of " + p, two.part(p, 7), 9);
        }
        // It is 10 or more at the day's end that counts: in the day itself the WIDTH stays.
        RentedLooks late = in(ONE + "scene 0 3 27;scene 1 3 27;scene 2 3 27;scene 3 3 27;");
        due("three days of four HOURS, then too narrow", late.day(9), 3 * 72);
        due("days", late.told(6), 9);
        due("WORN", late.part(0, 7), 2);
    }

    // "(0 at least)"
    private static void widthNotBelowNone() {
        RentedLooks x = in("part brow 0 0 1 0 11;part eyes 0 1 1 0 11;part mouth 0 2 1 0 11;scene 0 0 27;scene 5 0 27;");
        int[] widths = {0, 1, 2};
        for (int n = 0; n < 3; n++) {
            for (int p = 0; p < 3; p++) {
                due("WIDTH of " + p, x.part(p, 2), Math.max(0, widths[p] - n));
                due("WORN of " + p, x.part(p, 7), 0);
            }
            x.day(4);
            due("WORN", x.part(0, 7), 8);
            x.day(1);
        }
    }

    // "all wear the BEST DRESSING, if there is one"
    private static void noDressingNoneWorn() {
        RentedLooks x = in(ONE + "scene 3 0 27;scene 4 0 27;");
        x.law(1);
        due("day(9)", x.day(9), 0);
        due("drift(9)", x.drift(9), 0);
        due("SPENT", x.told(5), 0);
        due("days", x.told(6), 18);
        for (int p = 0; p < 3; p++) {
            due("WORN", x.part(p, 7), 0);
            due("WIDTH", x.part(p, 2), 1);
        }
        RentedLooks y = in(ONE);
        due("no SCENES", y.day(9), 0);
        due("WORN", y.part(0, 7), 0);
    }

    // "THE SEED becomes v (0 .. 2147483647): what it was. OUTSIDE."; "(0 at first ..)"
    private static void seedBounds() {
        RentedLooks x = new RentedLooks();
        due("at first", x.seed(2147483647), 0);
        due("seed(-1)", x.seed(-1), OUTSIDE);
        due("seed(-2147483648)", x.seed(-2147483648), OUTSIDE);
        due("the most", x.seed(0), 2147483647);
        due("the least", x.seed(1), 0);
        due("town() leaves it", Check.town(x, ONE), 3);
        due("THE SEED", x.seed(0), 1);
    }

    // "each DRAW it becomes it times 1103515245 and 12345, left over by 2 to the 31"
    private static void seedLeftOver() {
        RentedLooks x = in("part brow 0 1 50 0 11;");
        int[] seeds = {12345, 1406932606, 654583775, 1449466924, 229283573, 1109335178, 1051550459, 1293799192, 794471793, 551188310};
        // DRAWS of 4: 0 0 0 1 2 3 1 1 2 2
        int[] prices = {51, 52, 53, 52, 52, 52, 51, 50, 50, 50};
        for (int d = 0; d < 10; d++) {
            x.drift(1);
            due("PRICE behind DRAW " + d, x.part(0, 3), prices[d]);
            int seed = x.seed(0);
            due("THE SEED behind DRAW " + d, seed, seeds[d]);
            x.seed(seed);
        }
        x.seed(0);
        x.drift(9);
        due("nine DRAWS in one call", x.seed(2147483647), 794471793);
        x.drift(1);
        due("from the most", x.seed(1), 1043980748);
        x.drift(1);
        due("from 1", x.seed(1073741824), 1103527590);
        x.drift(1);
        due("from 2 to the 30", x.seed(0), 1073754169);
        RentedLooks ten = in("part brow0 1 50 0 1;".repeat(10));
        ten.drift(1);
        due("a DRAW for each of ten PARTS", ten.seed(0), 551188310);
        int[] each = {51, 51, 51, 49, 50, 50, 49, 49, 50, 50};
        for (int p = 0; p < 10; p++) {
            due("PRICE of " + p, ten.part(p, 3), each[p]);
        }
        RentedLooks none = in("scene 0 0 27;");
        none.seed(5);
        none.drift(9);
        due("no PARTS, no DRAWS", none.seed(0), 5);
    }

    // "0 its PRICE is one more (99 at most), 1 one less (0 at least), else as it is"
    private static void drawsStopAtBounds() {
        int[][] prices = {{98, 99, 99, 99, 98, 98, 98, 97, 96}, {99, 99, 99, 99, 98, 98, 98, 97, 96}, {97, 98, 99, 99, 98, 98, 98, 97, 96}};
        for (int[] row : prices) {
            RentedLooks x = in("part brow 0 1 " + row[0] + " 0 11;");
            for (int d = 1; d < 9; d++) {
                x.drift(1);
                due("PRICE from " + row[0] + ", day " + d, x.part(0, 3), row[d]);
            }
        }
        // From this SEED on the DRAWS are 1 2 3 1 1 2 2.
        int[][] low = {{0, 0, 0, 0, 0, 0, 0}, {1, 0, 0, 0, 0, 0, 0}, {2, 1, 1, 1, 0, 0, 0}};
        for (int[] row : low) {
            RentedLooks x = in("part brow 0 1 " + row[0] + " 0 11;");
            x.seed(654583775);
            for (int d = 1; d < 7; d++) {
                x.drift(1);
                due("PRICE from " + row[0] + ", day " + d, x.part(0, 3), row[d]);
            }
        }
    }

    // "ahead of each, PART by PART .. then the DAY"
    private static void drawsAheadOfTheDay() {
        RentedLooks x = in(ONE + "scene 0 0 27;");
        due("three more on the first day", x.drift(1), 21);
        // DRAWS 1 2 3, then 1 1 2.
        due("one less on the second, two less on the third", x.drift(2), 20 + 18);
        due("SPENT", x.told(5), 59);
        due("HOURS WORN", x.part(0, 7), 3);
        due("days", x.told(6), 3);
    }

    // "The PRICE of a PART becomes v (0 .. 99)", "The WIDTH of a PART becomes v (0 .. 9)"
    private static void pricesAndWidthsAtTheirBounds() {
        RentedLooks x = in(ONE);
        for (int p = 0; p < 3; p++) {
            due("price(" + p + ", 0)", x.price(p, 0), 5 + p);
            due("price(" + p + ", 99)", x.price(p, 99), 0);
            due("price(" + p + ", 100)", x.price(p, 100), OUTSIDE);
            due("price(" + p + ", -1)", x.price(p, -1), OUTSIDE);
            due("PRICE", x.part(p, 3), 99);
            due("width(" + p + ", 0)", x.width(p, 0), 1);
            due("width(" + p + ", 9)", x.width(p, 9), 0);
            due("width(" + p + ", 10)", x.width(p, 10), OUTSIDE);
            due("width(" + p + ", -1)", x.width(p, -1), OUTSIDE);
            due("WIDTH", x.part(p, 2), 9);
        }
        due("the widest", x.look(0, 1), 27);
        due("the dearest", x.look(0, 2), 297);
        due("price(3, 0)", x.price(3, 0), UNKNOWN);
        due("width(3, 0)", x.width(3, 0), UNKNOWN);
        RentedLooks ten = in("part brow0 1 50 0 1;".repeat(10));
        due("price(9, 0)", ten.price(9, 0), 50);
        due("price(10, 0)", ten.price(10, 0), UNKNOWN);
        due("width(9, 0)", ten.width(9, 0), 1);
        due("width(10, 0)", ten.width(10, 0), UNKNOWN);
        due("part(9, 3)", ten.part(9, 3), 0);
        due("part(10, 3)", ten.part(10, 3), UNKNOWN);
    }

    // "IMAGES 0, 1 keep WIDTHS, PRICES, what is WORN, SPENT, LAW, days, THE SEED."
    private static void imagesKeepAllThis() {
        for (int i = 0; i < 2; i++) {
            RentedLooks x = in(ONE + "scene 0 0 27;");
            x.day(4);
            x.width(0, 3);
            x.price(1, 44);
            x.law(1);
            x.seed(321);
            due("keep(" + i + ")", x.keep(i), 1);
            x.width(0, 8);
            x.price(1, 55);
            x.law(0);
            x.seed(123);
            x.day(3);
            for (int round = 0; round < 2; round++) {
                due("goBack(" + i + ")", x.goBack(i), 1);
                due("WIDTH", x.part(0, 2), 3);
                due("PRICE", x.part(1, 3), 44);
                due("WORN", x.part(2, 7), 4);
                due("SPENT", x.told(5), 72);
                due("LAW", x.told(4), 1);
                due("days", x.told(6), 4);
                due("THE SEED", x.seed(7), 321);
                x.drift(2);
                x.law(0);
            }
        }
    }

    private static void imagesKeepNothingElse() {
        RentedLooks x = in(ONE + "scene 0 0 27;");
        x.see(0, 3);
        x.write(0, 0);
        x.keep(0);
        x.see(1, 4);
        x.write(1, 1);
        Check.town(x, "   mask");
        Check.feed(x, ONE);
        due("goBack(0)", x.goBack(0), 1);
        due("SEEN", x.told(7), 2);
        due("the second sighting", x.seen(1, 0), 0);
        due("BOOK", x.told(8), 2);
        due("THE TEXT", x.told(3), ONE.length());
        due("fault()", x.fault(), 3);
        due("keep(0) changes nothing else", x.keep(0), 1);
        due("SEEN", x.told(7), 2);
        due("BOOK", x.told(8), 2);
        due("THE TEXT", x.town(), 3);
    }

    // "UNKNOWN, NOT: it was not kept"; "IMAGES are gone"
    private static void imagesAreTwo() {
        RentedLooks x = in(ONE);
        for (int i : new int[] {-1, 2, 256, Integer.MIN_VALUE, Integer.MAX_VALUE}) {
            due("keep(" + i + ")", x.keep(i), UNKNOWN);
            due("goBack(" + i + ")", x.goBack(i), UNKNOWN);
        }
        due("goBack(0)", x.goBack(0), NOT);
        due("goBack(1)", x.goBack(1), NOT);
        x.price(0, 10);
        due("keep(0)", x.keep(0), 1);
        due("goBack(1)", x.goBack(1), NOT);
        x.price(0, 11);
        due("keep(1)", x.keep(1), 1);
        x.price(0, 12);
        due("goBack(0)", x.goBack(0), 1);
        due("PRICE", x.part(0, 3), 10);
        due("goBack(1)", x.goBack(1), 1);
        due("PRICE", x.part(0, 3), 11);
        x.price(0, 13);
        due("keep(0) anew", x.keep(0), 1);
        due("goBack(1)", x.goBack(1), 1);
        due("PRICE", x.part(0, 3), 11);
        due("goBack(0)", x.goBack(0), 1);
        due("PRICE", x.part(0, 3), 13);
        due("the same town", Check.town(x, ONE), 3);
        due("goBack(0)", x.goBack(0), NOT);
        due("goBack(1)", x.goBack(1), NOT);
        due("PRICE", x.part(0, 3), 5);
        RentedLooks none = new RentedLooks();
        due("keep(0) without a town", none.keep(0), 1);
        none.law(1);
        due("goBack(0) without a town", none.goBack(0), 1);
        due("LAW", none.told(4), 0);
    }

    // "SPENT (999999999 at most)": 512 calls do not reach it, and behind them answers are free; ours hold it there, too
    private static void spentAtMost() {
        StringBuilder text = new StringBuilder("part brow 0 9 99 0 11;part eyes 0 9 99 0 11;part mouth 0 9 99 0 11;");
        for (int h = 0; h < 8; h++) {
            text.append("scene ").append(h).append(" 0 27;");
        }
        RentedLooks x = in(text.toString());
        for (int n = 0; n < 46763; n++) {
            x.day(9);
        }
        x.day(8);
        due("just below", x.told(5), 999999000);
        x.day(1);
        due("at most", x.told(5), 999999999);
        x.drift(9);
        due("still", x.told(5), 999999999);
        x.keep(0);
        due("kept", x.goBack(0), 1);
        due("kept", x.told(5), 999999999);
        due("a new town", Check.town(x, ONE), 3);
        due("SPENT", x.told(5), 0);
    }
}
