/** Counts answers that are as due and prints those that are not. */
final class Check {
    private final String name;
    private int asDue;
    private int wrong;

    Check(String name) {
        this.name = name;
    }

    void due(String what, long got, long want) {
        if (got == want) {
            asDue++;
            return;
        }
        wrong++;
        if (wrong <= 40) {
            System.out.println(name + ": " + what + " answered " + got + ", due is " + want);
        }
    }

    void holds(String what, boolean so) {
        due(what, so ? 1 : 0, 1);
    }

    boolean hasFailed() {
        return wrong > 0;
    }

    /** Ends the program with 1 if an answer was wrong, or if none was looked at. */
    void close() {
        System.out.println(name + ": " + asDue + " answers as due, " + wrong + " not");
        if (wrong > 0 || asDue == 0) {
            System.exit(1);
        }
    }

    static int feed(RentedLooks x, String text) {
        int has = 0;
        for (int at = 0; at < text.length(); at += 8) {
            String bytes = text.substring(at, Math.min(text.length(), at + 8));
            long packed = 0;
            for (int k = 0; k < bytes.length(); k++) {
                packed = packed << 8 | bytes.charAt(k) & 255;
            }
            has = x.feed(bytes.length(), packed);
        }
        return has;
    }

    static int town(RentedLooks x, String text) {
        feed(x, text);
        return x.town();
    }

    static RentedLooks inTown(String text) {
        RentedLooks x = new RentedLooks();
        int answer = town(x, text);
        if (answer < 0) {
            throw new IllegalArgumentException("a test's town has a fault: " + answer + " at " + x.fault());
        }
        return x;
    }
}
