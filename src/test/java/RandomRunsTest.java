import java.util.Random;

/** Runs of calls by draws (always the same ones), each answer compared with the slow Oracle's. */
public final class RandomRunsTest {
    private static final String[] KINDS = {"brow", "eyes", "mouth"};

    private final Check check = new Check("RandomRunsTest");
    private final Random random;
    private RentedLooks x;
    private Oracle y;
    private StringBuilder log;
    private int mostParts;
    private int mostScenes;

    private RandomRunsTest(int number) {
        random = new Random(number);
    }

    public static void main(String[] args) {
        RandomRunsTest test = new RandomRunsTest(20261119);
        int runs = args.length > 1 ? Integer.parseInt(args[1]) : 700;
        for (int run = 0; run < runs && !test.check.hasFailed(); run++) {
            test.oneRun(run);
        }
        for (int k = 0; k < 20000 && !test.check.hasFailed(); k++) {
            test.oneText(k);
        }
        test.check.close();
    }

    private int below(int n) {
        return random.nextInt(n);
    }

    private String blanks(boolean needed) {
        String some = below(6) == 0 ? "   ".substring(below(3)) : "";
        return needed && some.isEmpty() ? " " : some;
    }

    private String number(int value) {
        return below(12) == 0 ? (value < 10 ? "0" : "") + value : "" + value;
    }

    private String aTown() {
        mostParts = 1 + below(10);
        mostScenes = mostParts > 7 ? 1 + below(3) : mostParts > 5 ? 1 + below(5) : 1 + below(8);
        int hours = 1 + below(12);
        int prices = below(3) == 0 ? 3 : 100;
        int widths = below(3) == 0 ? 3 : 10;
        StringBuilder s = new StringBuilder(blanks(false));
        int parts = 0;
        int scenes = 0;
        boolean[][] clash = new boolean[10][10];
        for (int n = 0; n < mostParts + mostScenes + 3; n++) {
            int sort = below(3);
            if (parts < mostParts && (sort == 0 || n < 4)) {
                int a = below(2) == 0 ? 0 : below(12);
                int b = below(2) == 0 ? 11 : a + below(12 - a);
                s.append("part").append(blanks(true)).append(KINDS[(parts + (below(4) == 0 ? 1 : 0)) % 3]);
                s.append(blanks(false)).append(number(below(4))).append(blanks(true)).append(number(below(widths)));
                s.append(blanks(true)).append(number(below(prices))).append(blanks(true)).append(number(a));
                s.append(blanks(true)).append(number(b));
                parts++;
            } else if (scenes < mostScenes && sort == 1) {
                int u = below(2) == 0 ? 0 : below(20);
                int v = below(2) == 0 ? 27 : u + below(28 - u);
                s.append("scene").append(blanks(false)).append(number(below(hours))).append(blanks(true));
                s.append(number(u)).append(blanks(true)).append(number(v));
                scenes++;
            } else {
                int c = parts == 0 ? 0 : below(parts);
                int d = parts == 0 ? 0 : below(parts);
                if (c == d || clash[c][d]) {
                    continue;
                }
                clash[c][d] = true;
                clash[d][c] = true;
                s.append("clash").append(blanks(false)).append(number(c)).append(blanks(true)).append(number(d));
            }
            s.append(blanks(false)).append(';').append(blanks(false));
        }
        return s.length() > 400 ? s.substring(0, s.lastIndexOf(";", 399) + 1) : s.toString();
    }

    private static final String[] BITS = {";", " ", "0", "1", "9", "12", "100", "0000", "part", "clash", "scene", "brow",
        "eyes", "mouth", "x", "P", "\t", "\u00e9", "-1", "\n", "part brow 0 1 1 0 11;", "scene 1 0 27;", "clash 0 1;"};

    private String spoilt(String s) {
        StringBuilder t = new StringBuilder(s);
        int times = 1 + below(2);
        for (int n = 0; n < times; n++) {
            int at = below(t.length() + 1);
            int until = Math.min(t.length(), at + below(3));
            switch (below(4)) {
                case 0: t.delete(at, until); break;
                case 1: t.insert(at, BITS[below(BITS.length)]); break;
                case 2: t.replace(at, until, BITS[below(BITS.length)]); break;
                default: t.setLength(at); break;
            }
        }
        return t.length() > 400 ? t.substring(0, 400) : t.toString();
    }

    private void due(String call, int got, int want) {
        log.append(call).append(" -> ").append(want).append('\n');
        check.due(call, got, want);
        if (got != want) {
            System.out.println(log);
        }
    }

    private void feedBoth(String s) {
        log.append("TEXT [").append(s).append("]\n");
        int at = 0;
        while (at < s.length()) {
            int n = Math.min(s.length() - at, 1 + below(8));
            long packed = random.nextLong();
            for (int k = 0; k < n; k++) {
                packed = packed << 8 | s.charAt(at + k) & 255;
            }
            due("feed(" + n + ", " + packed + ")", x.feed(n, packed), y.feed(n, packed));
            at += n;
        }
    }

    private void oneText(int k) {
        x = new RentedLooks();
        y = new Oracle();
        log = new StringBuilder("text " + k + "\n");
        String s = aTown();
        if (below(4) == 0) {
            s = s + s;
        }
        feedBoth(spoilt(s.length() > 400 ? s.substring(0, 400) : s));
        due("town()", x.town(), y.town());
        due("fault()", x.fault(), y.fault());
        for (int what = -1; what < 12; what++) {
            due("told(" + what + ")", x.told(what), y.told(what));
        }
    }

    private void oneRun(int run) {
        x = new RentedLooks();
        y = new Oracle();
        log = new StringBuilder("run " + run + "\n");
        feedBoth(aTown());
        due("town()", x.town(), y.town());
        int calls = 120;
        for (int n = 0; n < calls && !check.hasFailed(); n++) {
            oneCall();
        }
        for (int p = 0; p < 10; p++) {
            for (int what = 0; what < 8; what++) {
                due("part(" + p + ", " + what + ")", x.part(p, what), y.part(p, what));
            }
        }
        for (int i = 0; i < 37; i++) {
            due("look(" + i + ", 0)", x.look(i, 0), y.look(i, 0));
        }
    }

    /** From 0 on below n, at times at or over an edge, at times far off. */
    private int about(int n) {
        int sort = below(12);
        if (sort == 0) {
            return new int[] {-1, n, -2, n + 1, Integer.MAX_VALUE, Integer.MIN_VALUE}[below(6)];
        }
        return below(Math.max(1, n));
    }

    private void oneCall() {
        switch (below(32)) {
            case 0: { int a = about(11); due("told(" + a + ")", x.told(a), y.told(a)); break; }
            case 1: { int a = about(mostParts), b = about(8); due("part(" + a + ", " + b + ")", x.part(a, b), y.part(a, b)); break; }
            case 2: { int a = about(mostScenes), b = about(3); due("scene(" + a + ", " + b + ")", x.scene(a, b), y.scene(a, b)); break; }
            case 3: { int a = about(12), b = about(3); due("look(" + a + ", " + b + ")", x.look(a, b), y.look(a, b)); break; }
            case 4: { int a = about(2); due("law(" + a + ")", x.law(a), y.law(a)); break; }
            case 5: { int a = about(mostParts), b = about(100); due("price(" + a + ", " + b + ")", x.price(a, b), y.price(a, b)); break; }
            case 6: { int a = about(mostParts), b = about(10); due("width(" + a + ", " + b + ")", x.width(a, b), y.width(a, b)); break; }
            case 7: case 8: { int a = about(mostScenes), b = about(2); due("cheapest(" + a + ", " + b + ")", x.cheapest(a, b), y.cheapest(a, b)); break; }
            case 9: due("dressing(-1)", x.dressing(-1), y.dressing(-1)); break;
            case 10: case 11: { int a = about(mostScenes); due("dressing(" + a + ")", x.dressing(a), y.dressing(a)); break; }
            case 12: case 13: { int a = about(4); due("rent(" + a + ")", x.rent(a), y.rent(a)); break; }
            case 14: case 15: { int a = about(4); due("without(" + a + ")", x.without(a), y.without(a)); break; }
            case 16: { int a = about(4), b = about(2); due("raise(" + a + ", " + b + ")", x.raise(a, b), y.raise(a, b)); break; }
            case 17: { int a = about(3); due("grow(" + a + ")", x.grow(a), y.grow(a)); break; }
            case 18: { int a = about(12), b = about(2); due("wedding(" + a + ", " + b + ")", x.wedding(a, b), y.wedding(a, b)); break; }
            case 19: case 20: { int a = about(12), b = about(28); due("see(" + a + ", " + b + ")", x.see(a, b), y.see(a, b)); break; }
            case 21: { int a = about(20), b = about(2); due("seen(" + a + ", " + b + ")", x.seen(a, b), y.seen(a, b)); break; }
            case 22: due("strange()", x.strange(), y.strange()); break;
            case 23: { int a = about(10); due("day(" + a + ")", x.day(a), y.day(a)); break; }
            case 24: { int a = about(10); due("drift(" + a + ")", x.drift(a), y.drift(a)); break; }
            case 25: case 26: { int a = about(12), b = about(mostParts); due("write(" + a + ", " + b + ")", x.write(a, b), y.write(a, b)); break; }
            case 27: if (below(6) == 0) { due("tear()", x.tear(), y.tear()); } break;
            case 28: due("judge()", x.judge(), y.judge()); break;
            case 29: { int a = below(9) == 0 ? random.nextInt() : below(100); due("seed(" + a + ")", x.seed(a), y.seed(a)); break; }
            case 30: { int a = about(2); due("keep(" + a + ")", x.keep(a), y.keep(a)); break; }
            default: { int a = about(2); due("goBack(" + a + ")", x.goBack(a), y.goBack(a)); rareTown(); break; }
        }
    }

    private void rareTown() {
        if (below(4) == 0) {
            feedBoth(below(2) == 0 ? aTown() : spoilt(aTown()));
            due("town()", x.town(), y.town());
            due("fault()", x.fault(), y.fault());
        }
    }
}
