/** Promises 25 to 29: test plates and surfaces. */
final class PlateTest {
    private static final String LOW = "LOW 130002 130001 130000";
    private static final String TOP = "TOP 230000 229999 229998";
    // A is 50000.
    private static final String EVEN = "EVEN 150300 150000 149800";
    private static final Due DUE = new Due();

    public static void main(String[] args) {
        addPlate();
        nearestPlate();
        bestSurfaces();
        bestSurfacesAmongEquals();
        bestSurfacesErrors();
        surfacePower();
        surfacePowerErrors();
        DUE.end();
    }

    private static CountedDesk withPlates(CountedDesk desk, int... radii) {
        for (int radius : radii) {
            desk.addPlate(radius);
        }
        return desk;
    }

    private static void addPlate() {
        CountedDesk desk = new CountedDesk();
        int[] wrong = {999, 1000001, 0, -1000, Integer.MIN_VALUE, Integer.MAX_VALUE};
        for (int radius : wrong) {
            DUE.due("P25 addPlate(" + radius + ")", desk.addPlate(radius), AchromatDesk.OUT_OF_RANGE);
        }
        DUE.due("P26 plateCount() behind errors", desk.plateCount(), 0);
        DUE.due("P25 addPlate(1000)", desk.addPlate(1000), 0);
        DUE.due("P25 addPlate(1000000)", desk.addPlate(1000000), 1);
        DUE.due("P25 addPlate(1000) again", desk.addPlate(1000), AchromatDesk.DUPLICATE);
        DUE.due("P26 plateCount()", desk.plateCount(), 2);
        for (int plate = 2; plate < 16; plate++) {
            DUE.due("P25 plate " + plate, desk.addPlate(1000 + plate), plate);
        }
        DUE.due("P25 a seventeenth", desk.addPlate(5000), AchromatDesk.FULL);
        DUE.due("P25 a known one, full", desk.addPlate(1015), AchromatDesk.DUPLICATE);
        DUE.due("P25 out of range, full", desk.addPlate(999), AchromatDesk.OUT_OF_RANGE);
        DUE.due("P26 plateCount() when full", desk.plateCount(), 16);
    }

    private static void nearestPlate() {
        DUE.due("P27 of none", new CountedDesk().nearestPlate(5), AchromatDesk.NOTHING);
        CountedDesk desk = withPlates(new CountedDesk(), 50000, 20000, 1000000);
        DUE.due("P27 nearestPlate(35000)", desk.nearestPlate(35000), 1);
        DUE.due("P27 nearestPlate(35001)", desk.nearestPlate(35001), 0);
        DUE.due("P27 nearestPlate(34999)", desk.nearestPlate(34999), 1);
        DUE.due("P27 nearestPlate(50000)", desk.nearestPlate(50000), 0);
        DUE.due("P27 nearestPlate(525000)", desk.nearestPlate(525000), 0);
        DUE.due("P27 nearestPlate(525001)", desk.nearestPlate(525001), 2);
        DUE.due("P27 nearestPlate(min)", desk.nearestPlate(Integer.MIN_VALUE), 1);
        DUE.due("P27 nearestPlate(max)", desk.nearestPlate(Integer.MAX_VALUE), 2);
    }

    private static void best(String glass, int power, long choice, int... radii) {
        CountedDesk desk = withPlates(Due.deskWith(glass), radii);
        desk.addLens(0, power);
        DUE.due("P28 for " + power, desk.bestSurfaces(0), choice);
    }

    private static void bestSurfaces() {
        best(Due.BK7, 5000000, 20, 80000, 100000, 250000, 33333);
        best(Due.BK7, -5000000, 23, 80000, 100000, 250000, 33333);
        best(Due.BK7, 10000000, 1011, 80000, 100000, 250000, 33333);
        best(Due.BK7, 5000000, 1, 80000);
        best(Due.BK7, -1, 2, 80000);
        best(Due.BK7, 10000000, 1011, 80000, 100000);
        CountedDesk desk = withPlates(Due.deskWith(Due.F2, Due.BK7), 80000, 100000);
        desk.addLens(0, 1);
        desk.addLens(1, 10000000);
        DUE.due("P28 the second lens", desk.bestSurfaces(1), 1011);
    }

    private static void bestSurfacesAmongEquals() {
        // r before s: 10 and 1003 have the same power.
        best(Due.BK7, 5000000, 10, 80000, 100000);
        best(Due.BK7, 5000000, 13, 100000, 80000);
        // Plus before minus for r: 10, 13, 1000 and 1003 are equally far from 0.
        best(Due.BK7, 0, 10, 80000, 100000);
        // 1 and 2 are equally far from 0, and a power of 0 cannot be made of one plate.
        best(Due.BK7, 0, 1, 80000);
        // Plus before minus for s: 10, 11, 1001 and 1003 are 500000 away.
        best(EVEN, 5000000, 10, 100000, 1000000);
        best(EVEN, 5000000, 11, 1000000, 100000);
        // The lowest plate for s: 11 and 21 have the same power when rounded down.
        best(LOW, 3300110, 11, 100000, 1000000, 999999);
        best(LOW, 3300110, 11, 100000, 999999, 1000000);
    }

    private static void bestSurfacesErrors() {
        CountedDesk desk = Due.deskWith(Due.BK7);
        DUE.due("P28 no lens, no plates", desk.bestSurfaces(0), AchromatDesk.NO_SUCH_LENS);
        desk.addLens(0, 1000);
        DUE.due("P28 no plates", desk.bestSurfaces(0), AchromatDesk.NOTHING);
        desk.addPlate(5000);
        DUE.due("P28 lens 1", desk.bestSurfaces(1), AchromatDesk.NO_SUCH_LENS);
        DUE.due("P28 lens -1", desk.bestSurfaces(-1), AchromatDesk.NO_SUCH_LENS);
        DUE.due("P28 lens 0", desk.bestSurfaces(0), 1);
    }

    private static void surfacePower() {
        CountedDesk desk = withPlates(Due.deskWith(Due.BK7, TOP), 80000, 33333, 999999, 1000000, 1000);
        DUE.due("P29 (0, 1)", desk.surfacePower(0, 1), 12920000);
        DUE.due("P29 (0, 2)", desk.surfacePower(0, 2), -12920000);
        DUE.due("P29 (0, 1000)", desk.surfacePower(0, 1000), 9044155);
        DUE.due("P29 (0, 10)", desk.surfacePower(0, 10), -9044156);
        DUE.due("P29 (0, 1003)", desk.surfacePower(0, 1003), -9044156);
        DUE.due("P29 (0, 2030)", desk.surfacePower(0, 2030), 0);
        DUE.due("P29 (0, 3020)", desk.surfacePower(0, 3020), -1);
        DUE.due("P29 (1, 4041)", desk.surfacePower(1, 4041), 2599980000L);
        DUE.due("P29 (1, 4042)", desk.surfacePower(1, 4042), -2599980000L);
        DUE.due("P29 (1, 3031)", desk.surfacePower(1, 3031), 2599980);
        CountedDesk full = Due.deskWith(EVEN);
        for (int plate = 0; plate < 16; plate++) {
            full.addPlate(100000 - plate);
        }
        full.addPlate(5000);
        DUE.due("P29 (0, 15151)", full.surfacePower(0, 15151), 10001500);
        DUE.due("P29 (0, 15160)", full.surfacePower(0, 15160), AchromatDesk.OUT_OF_RANGE);
        DUE.due("P29 (0, 16151)", full.surfacePower(0, 16151), AchromatDesk.OUT_OF_RANGE);
    }

    private static void surfacePowerErrors() {
        CountedDesk desk = withPlates(Due.deskWith(Due.BK7), 80000, 33333);
        int[] wrong = {-1, -1001, Integer.MIN_VALUE, 4, 9, 1004, 20, 2000, 21, 1990, 100, 0, 3, 1010, 1013,
            Integer.MAX_VALUE, 2147483610};
        for (int choice : wrong) {
            DUE.due("P29 (0, " + choice + ")", desk.surfacePower(0, choice), AchromatDesk.OUT_OF_RANGE);
        }
        DUE.due("P29 (1, 1)", desk.surfacePower(1, 1), AchromatDesk.NO_SUCH_GLASS);
        DUE.due("P29 (-1, -1)", desk.surfacePower(-1, -1), AchromatDesk.NO_SUCH_GLASS);
        DUE.due("P29 without plates", Due.deskWith(Due.BK7).surfacePower(0, 1), AchromatDesk.OUT_OF_RANGE);
    }
}
