/** The edges of THE TEXT and of the town told in it, sentence by sentence of the document. */
public final class TextEdgesTest {
    private static final int NONE = -1, OUTSIDE = -1000000002, FULL = -1000000004;
    private static final String[] KINDS = {"brow", "eyes", "mouth"};
    private static final String THREE = "part brow 0 1 5 0 11;part eyes 1 2 6 0 11;part mouth 2 3 7 0 11;";

    private static final Check CHECK = new Check("TextEdgesTest");

    public static void main(String[] args) {
        nBytesOfALong();
        theHighestOfTheseFirst();
        fourHundredBytesAtMost();
        aTownOfFourHundredBytes();
        tenPartsAtMost();
        kindsAreNumberedSo();
        numbersOfAPart();
        bNotBelowA();
        fifteenClashesAtMost();
        unlikePartsToldAhead();
        eachTwoOnce();
        eightScenesAtMost();
        numbersOfAScene();
        vNotBelowU();
        oneToThreeFigures();
        wordsAreLettersSideBySide();
        blanksStandAnywhereBut();
        twoSideBySideNeedOne();
        everyByteAlone();
        everyByteBehindAWord();
        everyByteBehindANumber();
        theFirstByteThatHasOne();
        theEndAtTheTextsLength();
        aWordAtItsFirstLetter();
        theLeastOfOneByte();
        anEmptyText();
        aFaultLeavesAllElse();
        faultOfTheLatestTown();
        CHECK.close();
    }

    private static void due(String what, long got, long want) {
        CHECK.due(what, got, want);
    }

    private static void faulty(String text, int number, int place) {
        RentedLooks x = new RentedLooks();
        due("town() of [" + text + "]", Check.town(x, text), -10 - number);
        due("fault() of [" + text + "]", x.fault(), place);
        due("THE TEXT behind [" + text + "]", x.told(3), 0);
        due("PARTS behind [" + text + "]", x.told(0), 0);
        due("SCENES behind [" + text + "]", x.told(1), 0);
    }

    private static RentedLooks sound(String text, int parts, int scenes) {
        RentedLooks x = new RentedLooks();
        due("town() of [" + text + "]", Check.town(x, text), parts);
        due("fault() of [" + text + "]", x.fault(), NONE);
        due("PARTS of [" + text + "]", x.told(0), parts);
        due("SCENES of [" + text + "]", x.told(1), scenes);
        due("THE TEXT behind [" + text + "]", x.told(3), 0);
        return x;
    }

    // "The n lowest bytes (n 1 .. 8) of a long .. how many it has."
    private static void nBytesOfALong() {
        for (int n = 1; n <= 8; n++) {
            RentedLooks x = new RentedLooks();
            due("feed(" + n + ")", x.feed(n, 0x2020202020202020L), n);
            due("told(3)", x.told(3), n);
            due("feed(" + n + ") again", x.feed(n, 0x2020202020202020L), 2 * n);
        }
        for (int n : new int[] {0, 9, -1, 16, 64, 257, Integer.MIN_VALUE, Integer.MAX_VALUE}) {
            RentedLooks x = new RentedLooks();
            due("feed(" + n + ")", x.feed(n, 0x2020202020202020L), OUTSIDE);
            due("told(3)", x.told(3), 0);
        }
    }

    // "the highest of these first, come behind THE TEXT"
    private static void theHighestOfTheseFirst() {
        for (int n = 1; n <= 8; n++) {
            // All bytes above the n lowest are letters; of the n, the first alone is a blank.
            long bytes = 0x6161616161616161L & ~(255L << 8 * (n - 1)) | 32L << 8 * (n - 1);
            RentedLooks x = new RentedLooks();
            x.feed(n, bytes);
            due("town() of a blank and letters, " + n, x.town(), n == 1 ? 0 : -11);
            due("fault()", x.fault(), n == 1 ? NONE : 1);
        }
        RentedLooks y = new RentedLooks();
        y.feed(8, 0xff20202020202020L);
        due("a byte above 127 ahead", y.town(), -11);
        due("fault()", y.fault(), 0);
        y.feed(7, 0xff20202020202020L);
        due("the same byte left out", y.town(), 0);
        y.feed(1, 0x7363656e6520203bL);
        due("the lowest byte is the last", y.town(), -11);
        due("fault()", y.fault(), 0);
        y.feed(6, 0x7363656e6520L);
        y.feed(8, 0x30203020303b2020L);
        due("what is fed comes behind", y.town(), 0);
        due("SCENES", y.told(1), 1);
    }

    // "THE TOWN is told in a text (400 bytes at most)"; "FULL (400)"
    private static void fourHundredBytesAtMost() {
        for (int n = 1; n <= 8; n++) {
            RentedLooks x = new RentedLooks();
            Check.feed(x, " ".repeat(401 - n));
            due("feed(" + n + ") at " + (401 - n), x.feed(n, 0x7878787878787878L), FULL);
            due("told(3)", x.told(3), 401 - n);
            RentedLooks y = new RentedLooks();
            Check.feed(y, " ".repeat(400 - n));
            due("feed(" + n + ") at " + (400 - n), y.feed(n, 0x2020202020202020L), 400);
            due("feed(1) at 400", y.feed(1, 0x78), FULL);
            due("told(3)", y.told(3), 400);
            due("town() of 400 blanks: nothing of the refused ones", y.town(), 0);
            due("told(3) behind it", y.told(3), 0);
            due("feed(8) behind it", y.feed(8, 0x2020202020202020L), 8);
        }
        RentedLooks z = new RentedLooks();
        Check.feed(z, " ".repeat(400) + "x");
        due("a FAULT behind the 400th byte was not taken", z.town(), 0);
        Check.feed(z, " ".repeat(399) + "x");
        due("a FAULT at the 400th byte", z.town(), -11);
        due("fault()", z.fault(), 399);
        Check.feed(z, "part" + " ".repeat(396));
        due("a FAULT at the end of 400 bytes", z.town(), -11);
        due("fault()", z.fault(), 400);
    }

    private static void aTownOfFourHundredBytes() {
        String ten = THREE + "part brow 1 1 4 2 8;part eyes 2 5 6 0 11;part mouth 2 0 3 0 11;part mouth 2 0 3 0 11;"
            + "part mouth 2 0 3 0 11;part mouth 2 0 3 0 11;part mouth 2 0 3 0 11;";
        String last = "scene 11 9 27;";
        String text = ten + " ".repeat(400 - ten.length() - last.length()) + last;
        due("bytes", text.length(), 400);
        RentedLooks x = sound(text, 10, 1);
        due("its last number", x.scene(0, 2), 27);
        faulty(text.substring(0, 399), 1, 399);
        faulty(text.substring(0, 399) + ":", 1, 399);
    }

    private static String part(int kind, int l, int w, int p, int a, int b) {
        return "part " + KINDS[kind] + " " + l + " " + w + " " + p + " " + a + " " + b + ";";
    }

    // "(10 PARTS at most ..)"; "3 an 11th PART .. (at its first letter)"
    private static void tenPartsAtMost() {
        for (int kind = 0; kind < 3; kind++) {
            String one = part(kind, 0, 1, 1, 1, 1);
            sound(one.repeat(9), 9, 0);
            sound(one.repeat(10), 10, 0);
            faulty(one.repeat(11), 3, one.length() * 10);
            faulty(one.repeat(10) + " part", 3, one.length() * 10 + 1);
            faulty(one.repeat(10) + "part 0000", 3, one.length() * 10);
            faulty(one.repeat(10) + "par", 1, one.length() * 10);
        }
        String ten = part(0, 0, 1, 1, 1, 1).repeat(10);
        sound(ten + "clash 9 0;scene 0 0 0;", 10, 1);
        faulty(ten + "clash 9 0;scene 0 0 0;part;", 3, ten.length() + 22);
    }

    // "KIND 'brow' 'eyes' 'mouth', numbered so"
    private static void kindsAreNumberedSo() {
        RentedLooks x = sound(part(2, 0, 1, 1, 1, 1) + part(0, 0, 1, 1, 1, 1) + part(1, 0, 1, 1, 1, 1), 3, 0);
        due("mouth", x.part(0, 0), 2);
        due("brow", x.part(1, 0), 0);
        due("eyes", x.part(2, 0), 1);
        for (String other : new String[] {"bro", "brows", "eye", "eyess", "mout", "mouths", "part", "clash", "nose", "Brow", "b"}) {
            faulty("part " + other + " 0 1 1 1 1;", 1, 5);
        }
    }

    // "LANDLORD L 0 .. 3; WIDTH W 0 .. 9; PRICE P 0 .. 99; HOUR A to HOUR B, 0 .. 11 both"
    private static void numbersOfAPart() {
        String[] names = {"L", "W", "P", "A", "B"};
        int[] most = {3, 9, 99, 11, 11};
        int[] field = {1, 2, 3, 4, 5};
        for (int k = 0; k < 5; k++) {
            for (int over = 0; over < 3; over++) {
                int value = over == 0 ? 0 : most[k] + over - 1;
                int[] v = {0, 0, 0, 0, k == 4 ? value : 11};
                v[k] = value;
                StringBuilder text = new StringBuilder("part brow");
                int place = 0;
                for (int j = 0; j < 5; j++) {
                    text.append(' ');
                    place = j == k ? text.length() : place;
                    text.append(v[j]);
                }
                text.append(';');
                if (over < 2) {
                    due(names[k], sound(text.toString(), 1, 0).part(0, field[k]), value);
                } else {
                    faulty(text.toString(), 2, place);
                }
            }
        }
        RentedLooks x = sound("part mouth 3 9 99 11 11;", 1, 0);
        int[] want = {2, 3, 9, 99, 11, 11, 0, 0};
        RentedLooks y = sound("part brow 0 0 0 0 0;", 1, 0);
        for (int what = 0; what < 8; what++) {
            due("the most, " + what, x.part(0, what), want[what]);
            due("the least, " + what, y.part(0, what), 0);
        }
        faulty("part brow -1 0 0 0 0;", 1, 10);
        faulty("part brow 0 -1 0 0 0;", 1, 12);
        faulty("part brow 0 0 -1 0 0;", 1, 14);
        faulty("part brow 0 0 0 -1 0;", 1, 16);
        faulty("part brow 0 0 0 0 -1;", 1, 18);
    }

    // "B not below A"; "4 B below A (at it)"
    private static void bNotBelowA() {
        for (int a = 0; a < 12; a++) {
            for (int b = 0; b < 12; b++) {
                String text = "part eyes 0 1 1 " + a + "  " + b + ";";
                if (b < a) {
                    faulty(text, 4, 19 + (a > 9 ? 1 : 0));
                } else {
                    RentedLooks x = sound(text, 1, 0);
                    due("A", x.part(0, 4), a);
                    due("B", x.part(0, 5), b);
                }
            }
        }
    }

    private static String clashes(int many) {
        StringBuilder text = new StringBuilder("part brow0 1 1 1 1;".repeat(7));
        int told = 0;
        for (int x = 0; x < 7; x++) {
            for (int y = x + 1; y < 7 && told < many; y++) {
                text.append("clash").append(told % 2 == 0 ? x : y).append(' ').append(told % 2 == 0 ? y : x).append(';');
                told++;
            }
        }
        return text.toString();
    }

    // "(15 at most ..)"; "3 .. a 16th 'clash' .. (at its first letter)"
    private static void fifteenClashesAtMost() {
        for (int many = 0; many <= 15; many++) {
            due("CLASH", sound(clashes(many), 7, 0).told(2), many);
        }
        String full = clashes(15);
        faulty(clashes(16), 3, full.length());
        faulty(full + "  clash", 3, full.length() + 2);
        faulty(full + "clash 0 0;", 3, full.length());
        faulty(full + "clashes", 1, full.length());
        sound(full + "scene 0 0 0;" + part(1, 0, 1, 1, 1, 1), 8, 1);
    }

    // "unlike PARTS told ahead"; "2 .. a PART that was not told yet (at its first)"; "4 .. Y like X (at the Y)"
    private static void unlikePartsToldAhead() {
        for (int n = 0; n <= 10; n++) {
            String parts = part(1, 0, 1, 1, 1, 1).repeat(n);
            int at = parts.length();
            faulty(parts + "clash " + n + " 0;", 2, at + 6);
            if (n > 0) {
                faulty(parts + "clash 0 " + n + ";", 2, at + 8);
                faulty(parts + "clash " + (n - 1) + " " + (n - 1) + ";", 4, at + 8);
            }
            if (n > 1) {
                RentedLooks x = sound(parts + "clash " + (n - 1) + " 0;", n, 0);
                due("with the last", x.part(0, 6), 1 << n - 1);
                due("with the first", x.part(n - 1, 6), 1);
            }
        }
        String one = part(1, 0, 1, 1, 1, 1);
        faulty(one + "clash 0 1;" + one, 2, one.length() + 8);
        faulty("clash 0 1;" + one + one, 2, 6);
        sound(one + one + "clash 0 1;" + one, 3, 0);
        faulty(one + "clash 0 0;", 4, one.length() + 8);
        faulty(one + "clash 0   0", 4, one.length() + 10);
        faulty(one + "clash 00 000;", 4, one.length() + 9);
    }

    // "each two once, either way round"; "4 .. two again (at the Y)"
    private static void eachTwoOnce() {
        int at = THREE.length();
        faulty(THREE + "clash 0 2;clash 0 2;", 4, at + 18);
        faulty(THREE + "clash 0 2;clash 2 0;", 4, at + 18);
        faulty(THREE + "clash 2 0;clash 2 0;", 4, at + 18);
        faulty(THREE + "clash 2 0;clash 0   2", 4, at + 20);
        faulty(THREE + "clash 0 1;clash 1 2;clash 2 0;clash 1 0;", 4, at + 38);
        RentedLooks x = sound(THREE + "clash 0 1;clash 1 2;clash 2 0;", 3, 0);
        due("CLASH", x.told(2), 3);
        due("of 0", x.part(0, 6), 6);
        due("of 1", x.part(1, 6), 5);
        due("of 2", x.part(2, 6), 3);
        // What a text with a FAULT told is not told to the next.
        Check.town(x, THREE + "clash 0 1;clash");
        due("the next text may tell them again", Check.town(x, THREE + "clash 1 0;"), 3);
        due("CLASH", x.told(2), 1);
    }

    // "(8 SCENES at most ..)"; "3 .. a ninth SCENE (at its first letter)"
    private static void eightScenesAtMost() {
        String one = "scene 1 0 9;";
        for (int many = 0; many <= 8; many++) {
            sound(one.repeat(many), 0, many);
        }
        faulty(one.repeat(9), 3, 96);
        faulty(one.repeat(8) + "   scene", 3, 99);
        faulty(one.repeat(8) + "scene 99", 3, 96);
        faulty(one.repeat(8) + "scenes", 1, 96);
        sound(one.repeat(8) + THREE + "clash 0 1;", 3, 8);
    }

    // "in HOUR H, 0 .. 11, a LOOK of WIDTH U to V is needed, 0 .. 27 both"
    private static void numbersOfAScene() {
        RentedLooks x = sound("scene 0 0 0;scene 11 27 27;scene 11 0 27;", 0, 3);
        int[][] want = {{0, 0, 0}, {11, 27, 27}, {11, 0, 27}};
        for (int s = 0; s < 3; s++) {
            for (int what = 0; what < 3; what++) {
                due("scene(" + s + ", " + what + ")", x.scene(s, what), want[s][what]);
            }
        }
        faulty("scene 12 0 0;", 2, 6);
        faulty("scene 11 28 27;", 2, 9);
        faulty("scene 11 28 28;", 2, 9);
        faulty("scene 11 27 28;", 2, 12);
        faulty("scene -1 0 0;", 1, 6);
        faulty("scene 0 -1 0;", 1, 8);
        faulty("scene 0 0 -1;", 1, 10);
    }

    // "V not below U"; "4 .. V below U (at it)"
    private static void vNotBelowU() {
        for (int u = 0; u < 28; u++) {
            for (int v = 0; v < 28; v++) {
                String text = "scene 0 " + u + "   " + v + ";";
                if (v < u) {
                    faulty(text, 4, 12 + (u > 9 ? 1 : 0));
                } else {
                    RentedLooks x = sound(text, 0, 1);
                    due("U", x.scene(0, 1), u);
                    due("V", x.scene(0, 2), v);
                }
            }
        }
    }

    // "NUMBERS have one to three figures"; "2 a NUMBER of four figures or more, or out of its bounds (at its first)"
    private static void oneToThreeFigures() {
        for (String four : new String[] {"0000", "0001", "0009", "1000", "9999", "00000", "00000000000000000001", "4294967296",
            "4294967297", "18446744073709551616", "18446744073709551617"}) {
            faulty("part brow " + four + " 1 1 1 1;", 2, 10);
            faulty("part brow 0 1 1 1 " + four + ";", 2, 18);
            faulty("scene 1 1 " + four, 2, 10);
            faulty(THREE + "clash " + four + " 0;", 2, THREE.length() + 6);
            faulty(THREE + "clash 0 " + four, 2, THREE.length() + 8);
        }
        RentedLooks x = sound("part brow 003 09 099 00 011;part eyes 3 9 99 0 11;clash 001 000;scene 011 000 027;", 2, 1);
        for (int what = 1; what < 6; what++) {
            due("with noughts ahead, " + what, x.part(0, what), x.part(1, what));
        }
        due("CLASH", x.part(0, 6), 2);
        due("HOUR", x.scene(0, 0), 11);
        due("V", x.scene(0, 2), 27);
        faulty("part brow 0 1 999 1 1;", 2, 14);
        faulty("part brow 0 1 100 1 1;", 2, 14);
        faulty("part brow 010 1 1 1 1;", 2, 10);
    }

    // "words are letters a .. z side by side"
    private static void wordsAreLettersSideBySide() {
        faulty("par t brow 0 1 1 1 1;", 1, 0);
        faulty("part br ow 0 1 1 1 1;", 1, 5);
        faulty("pa7rt", 1, 0);
        faulty("PART", 1, 0);
        faulty("parT", 1, 0);
        faulty("part{", 1, 4);
        faulty("part`", 1, 4);
        faulty("partz", 1, 0);
        faulty("parta", 1, 0);
        faulty("part brow{", 1, 9);
        faulty("part brow`", 1, 9);
        faulty("part browz 0 1 1 1 1;", 1, 5);
        faulty("part browa 0 1 1 1 1;", 1, 5);
    }

    // "blanks (32) may stand anywhere but within words and NUMBERS"
    private static void blanksStandAnywhereBut() {
        String tight = "part brow0 1 2 3 4;part eyes0 1 2 3 4;clash0 1;scene1 2 3;";
        sound(tight, 2, 1);
        StringBuilder wide = new StringBuilder("   ");
        for (int i = 0; i < tight.length(); i++) {
            char c = tight.charAt(i);
            boolean endsWord = Character.isLetter(c) && i + 1 < tight.length() && !Character.isLetter(tight.charAt(i + 1));
            wide.append(c).append(Character.isLetter(c) && !endsWord ? "" : "  ");
        }
        RentedLooks x = sound(wide.toString(), 2, 1);
        due("U", x.scene(0, 1), 2);
        due("B", x.part(1, 5), 4);
        due("CLASH", x.part(1, 6), 1);
        faulty("part brow 0 1 2 3 1 1;", 4, 18);
        faulty("part brow 0 1 2 1 1 1;", 1, 20);
        faulty("scene 1 0 2 7;", 1, 12);
        for (char other : new char[] {0, 9, 10, 11, 12, 13, 31, 33, 160, 255}) {
            faulty(other + "scene 1 0 2;", 1, 0);
            faulty("scene" + other + "1 0 2;", 1, 5);
            faulty("scene 1" + other + "0 2;", 1, 7);
            faulty("scene 1 0 2" + other + ";", 1, 11);
            faulty("scene 1 0 2;" + other, 1, 12);
        }
    }

    // "two words, two NUMBERS side by side need one"
    private static void twoSideBySideNeedOne() {
        faulty("partbrow 0 1 1 1 1;", 1, 0);
        sound("part brow0 1 1 1 1;", 1, 0);
        faulty("scene 1 12;", 1, 10);
        sound("scene 1 02 3;", 0, 1);
        sound("scene1 0 2;scene1 0 2;", 0, 2);
        faulty("scene 1 0 2 scene 1 0 2;", 1, 12);
        faulty("scene 1 0 2scene 1 0 2;", 1, 11);
        faulty("scene scene 1 0 2;", 1, 6);
    }

    // "1 it cannot stand there", "the end at the text's length"
    private static void everyByteAlone() {
        for (int b = 0; b < 256; b++) {
            String s = String.valueOf((char) b);
            if (b == 32) {
                sound(s, 0, 0);
            } else {
                faulty(s, 1, 0);
                faulty("  " + s + "  ", 1, 2);
            }
        }
    }

    private static void everyByteBehindAWord() {
        for (int b = 0; b < 256; b++) {
            boolean letter = b >= 'a' && b <= 'z';
            faulty("part" + (char) b, 1, letter ? 0 : b == 32 ? 5 : 4);
            boolean figure = b >= '0' && b <= '9';
            if (figure) {
                faulty("scene" + (char) b, 1, 6);
            } else {
                faulty("scene" + (char) b, 1, letter ? 0 : b == 32 ? 6 : 5);
            }
        }
    }

    private static void everyByteBehindANumber() {
        for (int b = 0; b < 256; b++) {
            String text = "scene 1 0 9" + (char) b;
            if (b == ';') {
                sound(text, 0, 1);
            } else if (b >= '0' && b <= '9') {
                faulty(text, 2, 10);
            } else {
                faulty(text, 1, b == 32 ? 12 : 11);
            }
        }
    }

    // "FAULTS, at the first byte that has one"
    private static void theFirstByteThatHasOne() {
        faulty("part brow 4 10 100 12 12 x", 2, 10);
        faulty("part brow 0 10 100 12 12 x", 2, 12);
        faulty("part brow 0 1 100 12 12 x", 2, 14);
        faulty("part brow 0 1 1 12 12 x", 2, 16);
        faulty("part brow 0 1 1 5 12 x", 2, 18);
        faulty("part brow 0 1 1 5 4 x", 4, 18);
        faulty("part brow 0 1 1 5 5 x", 1, 20);
        faulty("scene 1 5 4;mask", 4, 10);
        faulty("scene 1 5 5;mask", 1, 12);
        faulty(THREE + "clash 0 0;clash 3 3;mask", 4, THREE.length() + 8);
        faulty(THREE + "clash 3 0;clash 0 0;mask", 2, THREE.length() + 6);
        faulty("scene 1 0 9;".repeat(9) + "part nose", 3, 96);
        faulty("part nose;" + "scene 1 0 9;".repeat(9), 1, 5);
    }

    // "(the end at the text's length)": the text ends within a clause, behind each of its bytes
    private static void theEndAtTheTextsLength() {
        String clause = "part brow 0 1 1 5 6;";
        int[] ends = {4, 9, 11, 13, 15, 17, 19};
        for (int end : ends) {
            faulty(clause.substring(0, end), 1, end);
            faulty(clause.substring(0, end) + "  ", 1, end + 2);
            faulty("scene 1 0 9;" + clause.substring(0, end), 1, end + 12);
        }
        for (int end : new int[] {5, 7, 9, 11}) {
            faulty("scene 1 0 9;".substring(0, end), 1, end);
        }
        for (int end : new int[] {5, 7, 9}) {
            faulty(THREE + "clash 0 1;".substring(0, end), 1, THREE.length() + end);
        }
    }

    // "(a word that cannot: at its first letter)"
    private static void aWordAtItsFirstLetter() {
        for (int end = 1; end < 4; end++) {
            faulty("part".substring(0, end), 1, 0);
            faulty("part " + "brow".substring(0, end), 1, 5);
        }
        faulty("brow 0 1 1 1 1;", 1, 0);
        faulty("  mask", 1, 2);
        faulty("part scene", 1, 5);
        faulty("part brow eyes", 1, 10);
        faulty("part brow 0 mouth", 1, 12);
        faulty("clash brow", 1, 6);
        faulty("scene 1 part", 1, 8);
        faulty("scene 1 0 9 part", 1, 12);
        faulty("part ; brow", 1, 5);
        faulty("part 7", 1, 5);
        faulty("part brow ; 1", 1, 10);
    }

    // "of these the least": at one byte
    private static void theLeastOfOneByte() {
        faulty("0000", 1, 0);
        faulty("part 0000", 1, 5);
        faulty("part brow 0 1 1 1 1 0000;", 1, 20);
        faulty("scene 1 5 0004;", 2, 10);
        faulty("part brow 0 1 1 5 0004;", 2, 18);
        faulty(THREE + "clash 0 0000;", 2, THREE.length() + 8);
        faulty(THREE + "clash 0 1;clash 0 0001;", 2, THREE.length() + 18);
        faulty(THREE + "clash 3 3;", 2, THREE.length() + 6);
    }

    // "An empty text (or one of blanks alone) has no FAULT: no PARTS, no SCENES."
    private static void anEmptyText() {
        for (int many : new int[] {0, 1, 2, 8, 399, 400}) {
            RentedLooks x = Check.inTown(THREE + "clash 0 1;scene 0 0 27;");
            due("PARTS ahead", x.told(0), 3);
            Check.feed(x, " ".repeat(many));
            due("town() of " + many + " blanks", x.town(), 0);
            due("fault()", x.fault(), NONE);
            for (int what = 0; what <= 10; what++) {
                due("told(" + what + ")", x.told(what), 0);
            }
            due("look(0, 0)", x.look(0, 0), NONE);
            due("dressing(NONE): 0 without SCENES", x.dressing(NONE), 0);
        }
    }

    // "-10 less the number of its FAULT (all else is as it was)"; "it is empty then, with a FAULT, too"
    private static void aFaultLeavesAllElse() {
        String[] texts = {"mask", "part brow 0 9 9 0 0;part brow 4", THREE.repeat(4), "scene 1 5 5;scene 1 5 4;"};
        for (int number = 1; number <= 4; number++) {
            RentedLooks x = Check.inTown(THREE + "clash 0 1;scene 0 0 27;");
            x.price(1, 77);
            x.width(2, 8);
            x.keep(1);
            x.day(2);
            x.see(4, 5);
            x.write(1, 2);
            x.law(1);
            x.seed(99);
            due("town()", Check.town(x, texts[number - 1]), -10 - number);
            int[] want = {3, 1, 1, 0, 1, 0, 2, 1, 1, 0, 0};
            for (int what = 0; what <= 10; what++) {
                due("told(" + what + ") behind FAULT " + number, x.told(what), want[what]);
            }
            due("PRICE", x.part(1, 3), 77);
            due("WIDTH", x.part(2, 2), 8);
            due("CLASH", x.part(0, 6), 2);
            due("V", x.scene(0, 2), 27);
            due("SEED", x.seed(0), 99);
            due("IMAGE 1", x.goBack(1), 1);
            due("a good text then", Check.town(x, THREE), 3);
            due("IMAGES are gone", x.goBack(1), -1000000003);
            due("CLASH", x.told(2), 0);
            due("LOOKS", x.told(9), 1);
        }
    }

    // "The place of the byte that has the FAULT of the latest town(); NONE."
    private static void faultOfTheLatestTown() {
        RentedLooks x = new RentedLooks();
        due("ahead of any town()", x.fault(), NONE);
        Check.town(x, "  mask");
        due("the first", x.fault(), 2);
        Check.town(x, "mask");
        due("the second", x.fault(), 0);
        x.feed(9, 0);
        x.goBack(0);
        Check.feed(x, THREE);
        due("still", x.fault(), 0);
        x.town();
        due("none", x.fault(), NONE);
        x.town();
        due("none", x.fault(), NONE);
    }
}
