import java.lang.management.ManagementFactory;

/** All calls of a run live in one room: no call makes objects, and a new object is small. */
public final class RoomTest {
    private static final String FULL_TOWN = "part brow 0 1 5 0 11;part brow 1 2 6 0 11;part brow 2 3 7 0 11;"
        + "part eyes 0 1 5 0 11;part eyes 1 2 6 0 11;part eyes 2 3 7 0 11;part mouth 0 1 5 0 11;part mouth 1 2 6 0 11;"
        + "part mouth 2 3 7 0 11;part mouth 3 9 1 0 11;scene 0 0 27;scene 0 0 27;scene 0 0 27;scene 1 0 27;"
        + "scene 1 0 27;scene 1 0 27;scene 2 0 27;scene 2 0 27;";

    public static void main(String[] args) {
        Check check = new Check("RoomTest");
        var threads = (com.sun.management.ThreadMXBean) ManagementFactory.getThreadMXBean();
        if (!threads.isThreadAllocatedMemorySupported()) {
            check.holds("this machine does not count what is made: not tested", true);
            check.close();
            return;
        }
        long own = Thread.currentThread().getId();
        RentedLooks first = new RentedLooks();
        everyCall(first);
        long before = threads.getThreadAllocatedBytes(own);
        RentedLooks x = new RentedLooks();
        long made = threads.getThreadAllocatedBytes(own);
        check.holds("a new object is of at most 40000 bytes: " + (made - before), made - before <= 40000);
        feedTown(x);
        x.town();
        long start = threads.getThreadAllocatedBytes(own);
        for (int n = 0; n < 20; n++) {
            everyCall(x);
        }
        long end = threads.getThreadAllocatedBytes(own);
        check.holds("600 calls make next to nothing: " + (end - start), end - start < 2000);
        check.close();
    }

    private static void feedTown(RentedLooks x) {
        for (int i = 0; i < FULL_TOWN.length(); i++) {
            x.feed(1, FULL_TOWN.charAt(i));
        }
    }

    private static void everyCall(RentedLooks x) {
        x.fault();
        x.told(10);
        x.part(0, 6);
        x.scene(0, 0);
        x.look(0, 2);
        x.law(0);
        x.price(0, 9);
        x.width(0, 9);
        x.cheapest(0, 0);
        x.dressing(0);
        x.rent(0);
        x.without(0);
        x.raise(0, 0);
        x.grow(0);
        x.wedding(0, 0);
        x.see(0, 9);
        x.seen(0, 1);
        x.strange();
        x.day(9);
        x.drift(9);
        x.write(0, 0);
        x.judge();
        x.tear();
        x.seed(1);
        x.keep(0);
        x.goBack(0);
        x.feed(2, 0x2020);
        x.town();
        feedTown(x);
        x.town();
    }
}
