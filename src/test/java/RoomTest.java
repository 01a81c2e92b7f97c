import java.lang.management.ManagementFactory;
import java.util.function.ToLongFunction;

/**
 * The room that a run of 512 calls has: 600,000 objects. Even the smallest object takes 16 bytes, so
 * a run that takes less than 9.6 million bytes keeps within it. Each of the dearest calls is asked
 * over and over here, of a desk that holds much.
 */
final class RoomTest {
    private static final long ROOM = 600000L * 16;
    private static final Due DUE = new Due();

    public static void main(String[] args) throws ReflectiveOperationException {
        if (isCounted()) {
            run("digest", CountedDesk::digest);
            run("doubletAt", desk -> desk.doubletAt(true, 44));
            run("doubletCount", CountedDesk::doubletCount);
            run("bestTriplet", CountedDesk::bestTriplet);
            run("findWrongGlass", desk -> desk.findWrongGlass(0, 0, 0));
            run("bestSurfaces", desk -> desk.bestSurfaces(7));
            run("placeByName", desk -> desk.placeByName(9));
            run("errorPosition", CountedDesk::errorPosition);
            run("addGlass", CountedDesk::addGlass);
        } else {
            DUE.isTrue("this Java machine does not count what is made", true);
        }
        DUE.end();
    }

    private static boolean isCounted() {
        try {
            return bytesMade() > 0;
        } catch (ReflectiveOperationException | IllegalArgumentException absent) {
            return false;
        }
    }

    /** By reflection, because this part of the Java library need not be there. */
    private static long bytesMade() throws ReflectiveOperationException {
        return (long) Class.forName("com.sun.management.ThreadMXBean")
            .getMethod("getThreadAllocatedBytes", long.class)
            .invoke(ManagementFactory.getThreadMXBean(), Thread.currentThread().getId());
    }

    private static void run(String call, ToLongFunction<CountedDesk> asked) throws ReflectiveOperationException {
        long before = bytesMade();
        CountedDesk desk = filled();
        int times = desk.callsLeft();
        while (desk.callsLeft() > 0) {
            asked.applyAsLong(desk);
        }
        long made = bytesMade() - before;
        DUE.isTrue(times + " times " + call + " took " + made + " bytes", made < ROOM);
    }

    /** Ten glasses, eight lenses, 16 plates, and a glass of a known name in the buffer. */
    private static CountedDesk filled() {
        CountedDesk desk = new CountedDesk();
        for (int glass = 0; glass < 10; glass++) {
            Due.type(desk, Due.glass("" + (char) ('A' + glass), 150010 + 37 * glass, 150000 + 29 * glass, 149990));
            desk.addGlass();
        }
        for (int lens = 0; lens < 8; lens++) {
            desk.addLens(lens, 1000000 * lens);
        }
        for (int plate = 0; plate < 16; plate++) {
            desk.addPlate(1000 + 5000 * plate);
        }
        Due.type(desk, "A 150010 150000 149990");
        return desk;
    }
}
