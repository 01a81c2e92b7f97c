import java.util.HashMap;
import java.util.Map;

/** The boundary cases of promises 25 to 29, and what the description says of test plates. */
final class PlateEdgesTest {
    private static final int MIN = Integer.MIN_VALUE;
    private static final int MAX = Integer.MAX_VALUE;
    private static final int LEAST = 1000;
    private static final int GREATEST = 1000000;
    // A is 50000.
    private static final String EVEN = "E 150300 150000 149800";
    private static final String LOW = "L 130002 130001 130000";
    private static final String TOP = "T 230000 229999 229998";
    private static final Due DUE = new Due();

    public static void main(String[] args) {
        theLastAndTheFirstRadii();
        sixteenPlates();
        everyKnownRadius();
        theNearestOfOne();
        equallyNear();
        nearTheLeastAndTheGreatest();
        onePlateOnly();
        theLowestPlateForR();
        thePlusSignForR();
        theLowestPlateForS();
        thePlusSignForS();
        equalWhenRoundedDown();
        eachLensByItsOwnGlassAndPower();
        noSuchLensOrNoPlates();
        everyChoiceOfNoPlate();
        everyChoiceOfOnePlate();
        everyChoiceOfThreePlates();
        everyChoiceOfSixteenPlates();
        farChoices();
        theGreatestSurfacePowers();
        surfacePowersAreRoundedDown();
        exactWhereDoublesAreNot();
        DUE.end();
    }

    private static CountedDesk with(String glass, int... radii) {
        CountedDesk desk = Due.deskWith(glass);
        for (int plate = 0; plate < radii.length; plate++) {
            DUE.due("P25 addPlate(" + radii[plate] + ")", desk.addPlate(radii[plate]), plate);
        }
        return desk;
    }

    private static void theLastAndTheFirstRadii() {
        CountedDesk desk = new CountedDesk();
        int[] beyond = {MIN, -1000000, -1000, -1, 0, 1, 999, 1000001, MAX};
        for (int radius : beyond) {
            DUE.due("P25 addPlate(" + radius + ")", desk.addPlate(radius), AchromatDesk.OUT_OF_RANGE);
            DUE.due("P26 plateCount() behind it", desk.plateCount(), 0);
        }
        int[] allowed = {1000, 1001, 999999, 1000000};
        for (int plate = 0; plate < allowed.length; plate++) {
            DUE.due("P25 addPlate(" + allowed[plate] + ")", desk.addPlate(allowed[plate]), plate);
            DUE.due("P26 plateCount() behind it", desk.plateCount(), plate + 1);
            DUE.due("P27 the plate itself", desk.nearestPlate(allowed[plate]), plate);
        }
    }

    private static void sixteenPlates() {
        CountedDesk desk = new CountedDesk();
        for (int plate = 0; plate < 16; plate++) {
            DUE.due("P25 plate " + plate, desk.addPlate(GREATEST - plate), plate);
            DUE.due("P26 plateCount()", desk.plateCount(), plate + 1);
        }
        DUE.due("P25 a 17th plate", desk.addPlate(LEAST), AchromatDesk.FULL);
        DUE.due("P25 an 18th plate", desk.addPlate(GREATEST - 16), AchromatDesk.FULL);
        DUE.due("P26 plateCount() of 16", desk.plateCount(), 16);
        for (int plate = 0; plate < 16; plate++) {
            DUE.due("P27 plate " + plate + " itself", desk.nearestPlate(GREATEST - plate), plate);
        }
        DUE.due("P27 nearestPlate(1000)", desk.nearestPlate(LEAST), 15);
    }

    private static void everyKnownRadius() {
        CountedDesk desk = new CountedDesk();
        for (int plate = 0; plate < 16; plate++) {
            desk.addPlate(LEAST + plate);
            for (int known = 0; known <= plate; known++) {
                DUE.due("P25 " + (LEAST + known) + " again, of " + (plate + 1),
                    desk.addPlate(LEAST + known), AchromatDesk.DUPLICATE);
            }
        }
        DUE.due("P26 plateCount()", desk.plateCount(), 16);
    }

    private static void theNearestOfOne() {
        int[] asked = {MIN, -1, 0, 999, 1000, 1001, 1000000, MAX};
        for (int radius : asked) {
            CountedDesk desk = new CountedDesk();
            DUE.due("P27 nearestPlate(" + radius + ") of none", desk.nearestPlate(radius), AchromatDesk.NOTHING);
            desk.addPlate(GREATEST);
            DUE.due("P27 nearestPlate(" + radius + ") of one", desk.nearestPlate(radius), 0);
        }
    }

    /** 2000 and 4000 are equally near to 3000, in whichever order they were added. */
    private static void equallyNear() {
        CountedDesk rising = with(EVEN, 2000, 4000);
        CountedDesk falling = with(EVEN, 4000, 2000);
        CountedDesk parted = with(EVEN, 4000, 100000, 2000, 200000);
        DUE.due("P27 2999, rising", rising.nearestPlate(2999), 0);
        DUE.due("P27 3000, rising", rising.nearestPlate(3000), 0);
        DUE.due("P27 3001, rising", rising.nearestPlate(3001), 1);
        DUE.due("P27 2999, falling", falling.nearestPlate(2999), 1);
        DUE.due("P27 3000, falling", falling.nearestPlate(3000), 1);
        DUE.due("P27 3001, falling", falling.nearestPlate(3001), 0);
        DUE.due("P27 2999, parted", parted.nearestPlate(2999), 2);
        DUE.due("P27 3000, parted", parted.nearestPlate(3000), 2);
        DUE.due("P27 3001, parted", parted.nearestPlate(3001), 0);
        DUE.due("P27 52000, parted", parted.nearestPlate(52000), 0);
        DUE.due("P27 52001, parted", parted.nearestPlate(52001), 1);
        DUE.due("P27 150000, parted", parted.nearestPlate(150000), 1);
    }

    private static void nearTheLeastAndTheGreatest() {
        CountedDesk desk = with(EVEN, GREATEST, LEAST, 500500);
        int[] asked = {MIN, MIN + 1, -1000000, -1000, -1, 0, 250750, 250751, 750250, 750251, MAX - 1, MAX};
        long[] nearest = {1, 1, 1, 1, 1, 1, 1, 2, 2, 0, 0, 0};
        for (int at = 0; at < asked.length; at++) {
            DUE.due("P27 nearestPlate(" + asked[at] + ")", desk.nearestPlate(asked[at]), nearest[at]);
        }
    }

    private static void best(String what, String glass, int power, long choice, int... radii) {
        CountedDesk desk = with(glass, radii);
        desk.addLens(0, power);
        DUE.due("P28 " + what + " for " + power, desk.bestSurfaces(0), choice);
    }

    /** r and s must differ, so that one plate makes one power above 0 and one below. */
    private static void onePlateOnly() {
        int[] radii = {LEAST, 80000, GREATEST};
        for (int radius : radii) {
            best("one plate", EVEN, 10000000, 1, radius);
            best("one plate", EVEN, 1, 1, radius);
            best("one plate", EVEN, 0, 1, radius);
            best("one plate", EVEN, -1, 2, radius);
            best("one plate", EVEN, -10000000, 2, radius);
        }
    }

    private static void theLowestPlateForR() {
        // 10 and 1003 have the same power, and so have 13 and 1000.
        best("r of plate 0", EVEN, 1250000, 10, 80000, 100000);
        best("r of plate 0, with a minus sign", EVEN, 1250000, 13, 100000, 80000);
        best("r of plate 0, with s of plate 2", EVEN, 1250000, 20, 80000, 1000, 100000);
        best("r of plate 1", EVEN, 1250000, 1020, 1000, 80000, 100000);
    }

    /** 20, 12 and 1002 have the power -6250000: plus for r comes before a lower plate for s. */
    private static void thePlusSignForR() {
        best("plus for r", EVEN, -6250000, 20, 240000, 120000, 60000);
        best("plus for r", EVEN, -6250000, 10, 240000, 60000, 120000);
        best("plus for r, equally far from 0", EVEN, 0, 1, 80000);
        best("plus for r, equally far from 0", EVEN, 0, 10, 80000, 100000);
        best("plus for r, equally far from 0", EVEN, 0, 10, 100000, 80000);
    }

    /** 4000000 and 4500000 can be made with plate 0 for r, and 4250000 lies between them. */
    private static void theLowestPlateForS() {
        best("s of plate 1", EVEN, 4250000, 10, 100000, 500000, 1000000);
        best("s of plate 1", EVEN, 4250000, 10, 100000, 1000000, 500000);
        best("s of the nearer plate", EVEN, 4249999, 20, 100000, 1000000, 500000);
        best("s of the nearer plate", EVEN, 4250001, 20, 100000, 500000, 1000000);
    }

    /** 4500000 and 5500000 are made with 1000000 for s, as it is and with a minus sign. */
    private static void thePlusSignForS() {
        best("plus for s", EVEN, 5000000, 10, 100000, 1000000);
        best("minus for s is nearer", EVEN, 5000001, 11, 100000, 1000000);
        best("plus for s is nearer", EVEN, 4999999, 10, 100000, 1000000);
    }

    private static void equalWhenRoundedDown() {
        best("s of plate 1", LOW, 3300110, 11, 100000, 1000000, 999999);
        best("s of plate 1", LOW, 3300110, 11, 100000, 999999, 1000000);
    }

    private static void eachLensByItsOwnGlassAndPower() {
        CountedDesk desk = Due.deskWith(EVEN, LOW);
        desk.addPlate(100000);
        desk.addPlate(1000000);
        desk.addLens(0, 5500000);
        desk.addLens(1, 5500000);
        desk.addLens(1, 3300110);
        DUE.due("P28 lens 0", desk.bestSurfaces(0), 11);
        DUE.due("P28 lens 1", desk.bestSurfaces(1), 1);
        DUE.due("P28 lens 2", desk.bestSurfaces(2), 11);
        DUE.due("P20 removeLens(0)", desk.removeLens(0), 2);
        DUE.due("P28 lens 0, which was 1", desk.bestSurfaces(0), 1);
        DUE.due("P28 lens 1, which was 2", desk.bestSurfaces(1), 11);
        DUE.due("P28 lens 2, none now", desk.bestSurfaces(2), AchromatDesk.NO_SUCH_LENS);
    }

    private static void noSuchLensOrNoPlates() {
        CountedDesk desk = Due.deskWith(EVEN);
        desk.addLens(0, 1);
        DUE.due("P28 no plates", desk.bestSurfaces(0), AchromatDesk.NOTHING);
        desk.addPlate(LEAST);
        DUE.due("P28 one plate", desk.bestSurfaces(0), 1);
        int[] wrong = {MIN, -1, 1, 8, MAX};
        for (int lens : wrong) {
            DUE.due("P28 bestSurfaces(" + lens + ")", desk.bestSurfaces(lens), AchromatDesk.NO_SUCH_LENS);
        }
    }

    /** The choices that are allowed, with their powers, made from the plates and not from the number. */
    private static Map<Integer, Long> choices(long valueA, int... radii) {
        Map<Integer, Long> powers = new HashMap<>();
        for (int front = 0; front < radii.length; front++) {
            for (int back = 0; back < radii.length; back++) {
                for (int signs = 0; signs <= 3; signs++) {
                    long r = signs >= 2 ? -radii[front] : radii[front];
                    long s = signs % 2 == 1 ? -radii[back] : radii[back];
                    if (r != s) {
                        powers.put(1000 * front + 10 * back + signs,
                            Math.floorDiv(valueA * 10000000 * (s - r), r * s));
                    }
                }
            }
        }
        return powers;
    }

    private static void everyChoice(int least, int greatest, int... radii) {
        Map<Integer, Long> powers = choices(50000, radii);
        CountedDesk desk = with(EVEN, radii);
        for (int choice = least; choice <= greatest; choice++) {
            if (desk.callsLeft() == 0) {
                desk = with(EVEN, radii);
            }
            DUE.due("P29 surfacePower(0, " + choice + ") of " + radii.length + " plates",
                desk.surfacePower(0, choice), powers.getOrDefault(choice, AchromatDesk.OUT_OF_RANGE));
        }
    }

    private static void everyChoiceOfNoPlate() {
        everyChoice(-20, 1100);
    }

    private static void everyChoiceOfOnePlate() {
        everyChoice(-1100, 2100, 80000);
    }

    private static void everyChoiceOfThreePlates() {
        everyChoice(-20, 4100, 80000, 1000, 1000000);
    }

    private static void everyChoiceOfSixteenPlates() {
        everyChoice(-200, 17200, 1000, 1000000, 999999, 1001, 50000, 20000, 35001, 35000, 100000, 250000,
            80000, 33333, 66666, 125000, 500000, 400000);
    }

    private static void farChoices() {
        CountedDesk desk = with(EVEN, 80000, 1000);
        int[] far = {MIN, MIN + 1, -1001, 65536000, 65537001, 1 << 24, 1 << 30, MAX - 46, MAX - 6, MAX};
        for (int choice : far) {
            DUE.due("P29 surfacePower(0, " + choice + ")", desk.surfacePower(0, choice), AchromatDesk.OUT_OF_RANGE);
        }
    }

    private static void theGreatestSurfacePowers() {
        CountedDesk desk = with(TOP, LEAST, GREATEST, 999999);
        DUE.due("P29 the greatest", desk.surfacePower(0, 1), 2599980000L);
        DUE.due("P29 the least", desk.surfacePower(0, 2), -2599980000L);
        DUE.due("P29 flat, above 0", desk.surfacePower(0, 1011), 2599980);
        DUE.due("P29 flat, below 0", desk.surfacePower(0, 1012), -2599980);
        DUE.due("P29 the flattest, below 0", desk.surfacePower(0, 1020), -2);
        DUE.due("P29 the flattest, above 0", desk.surfacePower(0, 2010), 1);
        best("the greatest", TOP, 10000000, 1011, LEAST, GREATEST);
        best("the least", TOP, -10000000, 1012, LEAST, GREATEST);
    }

    /** 1 / r - 1 / s is 1 / 240000 or minus that, so that the power is 2083333.3. */
    private static void surfacePowersAreRoundedDown() {
        CountedDesk desk = with(EVEN, 80000, 120000);
        DUE.due("P29 above 0", desk.surfacePower(0, 10), 2083333);
        DUE.due("P29 below 0", desk.surfacePower(0, 1000), -2083334);
        DUE.due("P29 above 0, both minus", desk.surfacePower(0, 1003), 2083333);
        DUE.due("P29 below 0, both minus", desk.surfacePower(0, 13), -2083334);
        DUE.due("P29 a whole number", desk.surfacePower(0, 1), 12500000);
        DUE.due("P29 a whole number below 0", desk.surfacePower(0, 2), -12500000);
    }

    /** Quotients so close below a whole number that a division of doubles reaches it. */
    private static void exactWhereDoublesAreNot() {
        DUE.due("P29 exact", with("X 201772 201672 201572", 937493, 906071).surfacePower(0, 12), -2206630);
        DUE.due("P29 exact", with("X 228118 228018 227918", 932637, 921931).surfacePower(0, 12), -2761232);
    }
}
