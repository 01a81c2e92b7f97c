/** Promises 13 to 18: doublets and triplets. */
final class DesignTest {
    private static final Due DUE = new Due();
    // A and B of the second are twice those of the first, so that E is 0.
    private static final String SINGLE = "P1 150150 150000 149950";
    private static final String DOUBLE = "P2 200100 200000 199700";

    public static void main(String[] args) {
        doubletPower();
        doubletPowerErrors();
        secondarySpectrum();
        theLeastE();
        doubletsInOrder();
        doubletsOfEqualSpectrumBadness();
        doubletsOfEqualStrain();
        doubletsOfAFullCatalogue();
        tripletPower();
        tripletPowerErrors();
        bestTriplet();
        bestTripletOfRoundedPowers();
        DUE.end();
    }

    private static void doubletPower() {
        CountedDesk desk = Due.deskWith(Due.BK7, Due.F2);
        DUE.due("P13 (0, 1, 1000, 0)", desk.doubletPower(0, 1, 1000, 0), 2315686);
        DUE.due("P13 (0, 1, 1000, 1)", desk.doubletPower(0, 1, 1000, 1), -1315687);
        DUE.due("P13 (0, 1, -1000, 0)", desk.doubletPower(0, 1, -1000, 0), -2315687);
        DUE.due("P13 (0, 1, -1000, 1)", desk.doubletPower(0, 1, -1000, 1), 1315686);
        DUE.due("P13 (1, 0, 1000, 0)", desk.doubletPower(1, 0, 1000, 0), -1315687);
        DUE.due("P13 (1, 0, 1000, 1)", desk.doubletPower(1, 0, 1000, 1), 2315686);
        DUE.due("P13 (0, 1, 10000, 0)", desk.doubletPower(0, 1, 10000, 0), 23156867);
        DUE.due("P13 (0, 1, -10000, 1)", desk.doubletPower(0, 1, -10000, 1), 13156867);
        DUE.due("P13 (0, 1, 0, 0)", desk.doubletPower(0, 1, 0, 0), 0);
    }

    private static void doubletPowerErrors() {
        CountedDesk desk = Due.deskWith(Due.BK7, Due.F2, SINGLE, DOUBLE);
        DUE.due("P13 (-1, 0, 0, 0)", desk.doubletPower(-1, 0, 0, 0), AchromatDesk.NO_SUCH_GLASS);
        DUE.due("P13 (0, 4, 0, 0)", desk.doubletPower(0, 4, 0, 0), AchromatDesk.NO_SUCH_GLASS);
        DUE.due("P13 (4, 0, 10001, 2)", desk.doubletPower(4, 0, 10001, 2), AchromatDesk.NO_SUCH_GLASS);
        DUE.due("P13 (0, 1, 10001, 0)", desk.doubletPower(0, 1, 10001, 0), AchromatDesk.OUT_OF_RANGE);
        DUE.due("P13 (0, 1, -10001, 0)", desk.doubletPower(0, 1, -10001, 0), AchromatDesk.OUT_OF_RANGE);
        DUE.due("P13 (0, 1, 0, 2)", desk.doubletPower(0, 1, 0, 2), AchromatDesk.OUT_OF_RANGE);
        DUE.due("P13 (0, 1, 0, -1)", desk.doubletPower(0, 1, 0, -1), AchromatDesk.OUT_OF_RANGE);
        DUE.due("P13 (0, 0, 0, 2)", desk.doubletPower(0, 0, 0, 2), AchromatDesk.OUT_OF_RANGE);
        DUE.due("P13 (0, 0, 0, 0)", desk.doubletPower(0, 0, 0, 0), AchromatDesk.NOTHING);
        DUE.due("P13 (2, 3, 1, 1)", desk.doubletPower(2, 3, 1, 1), AchromatDesk.NOTHING);
    }

    private static void secondarySpectrum() {
        CountedDesk desk = Due.deskWith(Due.BK7, Due.F2, SINGLE, DOUBLE);
        DUE.due("P14 (0, 1, 1000)", desk.secondarySpectrum(0, 1, 1000), -545175);
        DUE.due("P14 (0, 1, -1000)", desk.secondarySpectrum(0, 1, -1000), 545174);
        DUE.due("P14 (1, 0, 1000)", desk.secondarySpectrum(1, 0, 1000), -545175);
        DUE.due("P14 (0, 1, 10000)", desk.secondarySpectrum(0, 1, 10000), -5451750);
        DUE.due("P14 (0, 1, 0)", desk.secondarySpectrum(0, 1, 0), 0);
        DUE.due("P14 (0, 1, 10001)", desk.secondarySpectrum(0, 1, 10001), AchromatDesk.OUT_OF_RANGE);
        DUE.due("P14 (0, 1, -10001)", desk.secondarySpectrum(0, 1, -10001), AchromatDesk.OUT_OF_RANGE);
        DUE.due("P14 (0, 0, 10001)", desk.secondarySpectrum(0, 0, 10001), AchromatDesk.OUT_OF_RANGE);
        DUE.due("P14 (0, 4, 10001)", desk.secondarySpectrum(0, 4, 10001), AchromatDesk.NO_SUCH_GLASS);
        DUE.due("P14 (-1, 0, 0)", desk.secondarySpectrum(-1, 0, 0), AchromatDesk.NO_SUCH_GLASS);
        DUE.due("P14 (1, 1, 0)", desk.secondarySpectrum(1, 1, 0), AchromatDesk.NOTHING);
        DUE.due("P14 (3, 2, 5)", desk.secondarySpectrum(3, 2, 5), AchromatDesk.NOTHING);
    }

    /** A * B is 30001 * 3 against 45001 * 2, so that E is 1 one way round and -1 the other. */
    private static void theLeastE() {
        CountedDesk desk = Due.deskWith("LOW 130002 130001 130000", "NEXT 145003 145001 145000");
        DUE.due("P13 E is 1, first lens", desk.doubletPower(0, 1, 10000, 0), 900030000000L);
        DUE.due("P13 E is 1, second lens", desk.doubletPower(0, 1, 10000, 1), -900020000000L);
        DUE.due("P13 E is -1, first lens", desk.doubletPower(1, 0, 10000, 0), -900020000000L);
        DUE.due("P13 E is -1, second lens", desk.doubletPower(1, 0, 10000, 1), 900030000000L);
        DUE.due("P14 E is 1", desk.secondarySpectrum(0, 1, 10000), -10000000000L);
        DUE.due("P14 E is -1", desk.secondarySpectrum(1, 0, 10000), -10000000000L);
        ranking(desk, false, 1);
        ranking(desk, true, 1);
    }

    private static void ranking(CountedDesk desk, boolean byStrain, int... codes) {
        for (int place = 0; place < codes.length; place++) {
            DUE.due("P15 (" + byStrain + ", " + place + ")", desk.doubletAt(byStrain, place), codes[place]);
        }
        DUE.due("P15 the place behind the last", desk.doubletAt(byStrain, codes.length), AchromatDesk.NOTHING);
        DUE.due("P15 the place -1", desk.doubletAt(byStrain, -1), AchromatDesk.NOTHING);
        DUE.due("P15 the least place", desk.doubletAt(byStrain, Integer.MIN_VALUE), AchromatDesk.NOTHING);
        DUE.due("P15 the greatest place", desk.doubletAt(byStrain, Integer.MAX_VALUE), AchromatDesk.NOTHING);
        DUE.due("P16 doubletCount()", desk.doubletCount(), codes.length);
    }

    private static void doubletsInOrder() {
        CountedDesk desk = Due.deskWith(Due.BK7, Due.F2, Due.SF10, Due.LAK9, Due.FK51);
        ranking(desk, false, 403, 400, 401, 402, 301, 302, 102, 2, 1, 300);
        ranking(desk, true, 402, 302, 401, 2, 301, 1, 400, 102, 403, 300);
        DUE.due("P15 removeGlass(3)", desk.removeGlass(3), 4);
        ranking(desk, false, 300, 301, 302, 102, 2, 1);
        CountedDesk near = Due.deskWith("A 168155 167663 166881", "B 165630 164842 163390",
            "C 175822 175081 173601", "D 181073 179914 179187");
        ranking(near, true, 1, 2, 301, 3, 302, 201);
        ranking(Due.deskWith(Due.BK7), true);
        ranking(Due.deskWith(SINGLE, DOUBLE), false);
        ranking(Due.deskWith(Due.F2, Due.BK7), false, 100);
    }

    /** D is half of B in each glass, so that every spectrum badness is 0. */
    private static void doubletsOfEqualSpectrumBadness() {
        CountedDesk desk = Due.deskWith("A 150200 150100 150000", "B 160400 160200 160000",
            "C 151000 150500 150000", "D 150200 150100 150000");
        ranking(desk, false, 2, 302, 102, 1, 301);
        ranking(desk, true, 2, 302, 102, 1, 301);
    }

    /** Glasses 0, 1 and 3 have the same A and B, and 1 another D. */
    private static void doubletsOfEqualStrain() {
        CountedDesk desk = Due.deskWith("A 150300 150000 149800", "B 150200 150000 149700",
            "C 160900 160000 159500", "D 150300 150000 149800");
        ranking(desk, true, 2, 302, 102);
        ranking(desk, false, 2, 302, 102);
    }

    /** The 190 doublets of 20 glasses of which each has a greater B than the one before. */
    private static void doubletsOfAFullCatalogue() {
        CountedDesk desk = new CountedDesk();
        for (int glass = 0; glass < 20; glass++) {
            Due.type(desk, Due.glass("" + (char) ('A' + glass), 150001 + glass, 150000, 149999 - glass));
            desk.addGlass();
        }
        DUE.due("P16 doubletCount() of 20 glasses", desk.doubletCount(), 190);
        // Of B = 2 and B = 40 the strain is 42 / 38, of the last two it is 78 / 2.
        DUE.due("P15 (true, 0)", desk.doubletAt(true, 0), 19);
        DUE.due("P15 (true, 189)", desk.doubletAt(true, 189), 1819);
        DUE.due("P15 (true, 190)", desk.doubletAt(true, 190), AchromatDesk.NOTHING);
    }

    private static void tripletPower() {
        CountedDesk desk = Due.deskWith(Due.BK7, Due.F2, Due.SF10);
        long[] up = {-180305, 501740, -311437};
        long[] down = {180304, -501741, 311436};
        long[] turned = {-31144, -18031, 50174};
        long[] swapped = {50174, -18031, -31144};
        for (int lens = 0; lens < 3; lens++) {
            DUE.due("P17 (0, 1, 2, 10000, " + lens + ")", desk.tripletPower(0, 1, 2, 10000, lens), up[lens]);
            DUE.due("P17 (0, 1, 2, -10000, " + lens + ")", desk.tripletPower(0, 1, 2, -10000, lens), down[lens]);
            DUE.due("P17 (2, 0, 1, 1000, " + lens + ")", desk.tripletPower(2, 0, 1, 1000, lens), turned[lens]);
            DUE.due("P17 (1, 0, 2, 1000, " + lens + ")", desk.tripletPower(1, 0, 2, 1000, lens), swapped[lens]);
            DUE.due("P17 (0, 1, 2, 0, " + lens + ")", desk.tripletPower(0, 1, 2, 0, lens), 0);
        }
    }

    private static void tripletPowerErrors() {
        CountedDesk desk = Due.deskWith(Due.BK7, Due.F2, "A 150200 150100 150000",
            "B 160400 160200 160000", "C 151000 150500 150000");
        DUE.due("P17 a first that is none", desk.tripletPower(-1, 0, 1, 0, 0), AchromatDesk.NO_SUCH_GLASS);
        DUE.due("P17 a second that is none", desk.tripletPower(0, 5, 1, 0, 0), AchromatDesk.NO_SUCH_GLASS);
        DUE.due("P17 a third that is none", desk.tripletPower(0, 1, 5, 0, 0), AchromatDesk.NO_SUCH_GLASS);
        DUE.due("P17 none and the same", desk.tripletPower(0, 0, 5, 0, 0), AchromatDesk.NO_SUCH_GLASS);
        DUE.due("P17 first as second", desk.tripletPower(0, 0, 1, 0, 0), AchromatDesk.DUPLICATE);
        DUE.due("P17 first as third", desk.tripletPower(0, 1, 0, 0, 0), AchromatDesk.DUPLICATE);
        DUE.due("P17 second as third", desk.tripletPower(1, 0, 0, 0, 0), AchromatDesk.DUPLICATE);
        DUE.due("P17 the same, out of range", desk.tripletPower(1, 0, 0, 10001, 3), AchromatDesk.DUPLICATE);
        DUE.due("P17 power 10001", desk.tripletPower(0, 1, 2, 10001, 0), AchromatDesk.OUT_OF_RANGE);
        DUE.due("P17 power -10001", desk.tripletPower(0, 1, 2, -10001, 0), AchromatDesk.OUT_OF_RANGE);
        DUE.due("P17 lens 3", desk.tripletPower(0, 1, 2, 0, 3), AchromatDesk.OUT_OF_RANGE);
        DUE.due("P17 lens -1", desk.tripletPower(0, 1, 2, 0, -1), AchromatDesk.OUT_OF_RANGE);
        DUE.due("P17 T is 0, out of range", desk.tripletPower(2, 3, 4, 0, 3), AchromatDesk.OUT_OF_RANGE);
        DUE.due("P17 T is 0", desk.tripletPower(2, 3, 4, 100, 0), AchromatDesk.NOTHING);
    }

    private static void bestTriplet() {
        CountedDesk desk = Due.deskWith(Due.BK7, Due.F2, Due.SF10, Due.LAK9, Due.FK51);
        DUE.due("P18 bestTriplet()", desk.bestTriplet(), 204);
        DUE.due("P18 removeGlass(0)", desk.removeGlass(0), 4);
        DUE.due("P18 bestTriplet() without BK7", desk.bestTriplet(), 10203);
        DUE.due("P18 of two", Due.deskWith(Due.BK7, Due.F2).bestTriplet(), AchromatDesk.NOTHING);
        CountedDesk flat = Due.deskWith("A 150200 150100 150000", "B 160400 160200 160000",
            "C 151000 150500 150000");
        DUE.due("P18 where T is 0", flat.bestTriplet(), AchromatDesk.NOTHING);
        CountedDesk twins = Due.deskWith("A 150300 150000 149800", "B 150200 150000 149700",
            "C 160900 160000 159500", "D 150300 150000 149800", "E 160900 160000 159500");
        DUE.due("P18 with twins", twins.bestTriplet(), 102);
        DUE.due("P18 removeGlass(0) of twins", twins.removeGlass(0), 4);
        DUE.due("P18 with one pair of twins", twins.bestTriplet(), 102);
    }

    /** Catalogues in which another triplet would win if the powers were not rounded, or not down. */
    private static void bestTripletOfRoundedPowers() {
        CountedDesk rounded = Due.deskWith("A 153592 153547 153496", "B 185239 185197 185149",
            "C 170887 170839 170822", "D 185240 185198 185150");
        DUE.due("P18 equal when rounded", rounded.bestTriplet(), 102);
        CountedDesk down = Due.deskWith("A 187180 187132 187127", "B 178896 178862 178829",
            "C 161062 161012 160984", "D 161061 161011 160983");
        DUE.due("P18 rounded down", down.bestTriplet(), 103);
    }
}
