/** Every call of a desk that holds nothing: of a new one, and of one whose contents have gone again. */
final class EmptyDeskTest {
    private static final int MIN = Integer.MIN_VALUE;
    private static final int MAX = Integer.MAX_VALUE;
    private static final long NEW_DIGEST = 5283485657078775671L;
    private static final Due DUE = new Due();

    public static void main(String[] args) {
        everyCall("of a new desk", new CountedDesk());
        everyCall("of an emptied desk", emptied());
        noPlates("of a new desk", new CountedDesk());
        noPlates("of a desk with a lens", withALens());
        noGlassButPlates();
        desksAreApart();
        DUE.end();
    }

    /** Glasses, lenses and a text in the buffer were there; plates cannot go again. */
    private static CountedDesk emptied() {
        CountedDesk desk = Due.deskWith(Due.BK7, Due.F2, Due.SF10);
        desk.addLens(2, 5);
        desk.addLens(0, 7);
        Due.type(desk, Due.LAK9);
        DUE.due("P3 clearBuffer()", desk.clearBuffer(), Due.LAK9.length());
        DUE.due("P20 removeLens(1)", desk.removeLens(1), 1);
        DUE.due("P20 removeLens(0)", desk.removeLens(0), 0);
        DUE.due("P6 removeGlass(1)", desk.removeGlass(1), 2);
        DUE.due("P6 removeGlass(1)", desk.removeGlass(1), 1);
        DUE.due("P6 removeGlass(0)", desk.removeGlass(0), 0);
        return desk;
    }

    private static void everyCall(String of, CountedDesk desk) {
        int[] numbers = {MIN, -1, 0, 1, 19, 20, MAX};
        DUE.due("P30 digest() " + of, desk.digest(), NEW_DIGEST);
        theBuffer(of, desk);
        for (int number : numbers) {
            theGlasses(number + " " + of, desk, number);
            theDesigns(number + " " + of, desk, number);
            theSystem(number + " " + of, desk, number);
        }
        theCounts(of, desk);
        DUE.due("P30 digest() behind all, " + of, desk.digest(), NEW_DIGEST);
    }

    private static void theBuffer(String of, CountedDesk desk) {
        DUE.due("P4 errorPosition() " + of, desk.errorPosition(), 0);
        DUE.due("P5 addGlass() " + of, desk.addGlass(), AchromatDesk.INVALID_GLASS);
        DUE.due("P3 clearBuffer() " + of, desk.clearBuffer(), 0);
        DUE.due("P2 append(32) " + of, desk.append(32), 1);
        DUE.due("P3 clearBuffer() of one sign " + of, desk.clearBuffer(), 1);
    }

    private static void theCounts(String of, CountedDesk desk) {
        DUE.due("P7 glassCount() " + of, desk.glassCount(), 0);
        DUE.due("P16 doubletCount() " + of, desk.doubletCount(), 0);
        DUE.due("P21 lensCount() " + of, desk.lensCount(), 0);
        DUE.due("P26 plateCount() " + of, desk.plateCount(), 0);
        DUE.due("P18 bestTriplet() " + of, desk.bestTriplet(), AchromatDesk.NOTHING);
        for (int colour = 0; colour <= 2; colour++) {
            DUE.due("P22 systemPower(" + colour + ") " + of, desk.systemPower(colour), 0);
        }
        DUE.due("P22 systemPower(3) " + of, desk.systemPower(3), AchromatDesk.OUT_OF_RANGE);
        DUE.due("P22 systemPower(-1) " + of, desk.systemPower(-1), AchromatDesk.OUT_OF_RANGE);
        DUE.due("P24 findWrongGlass(0, 0, 0) " + of, desk.findWrongGlass(0, 0, 0), AchromatDesk.NOTHING);
    }

    private static void theGlasses(String what, CountedDesk desk, int number) {
        long code = AchromatDesk.NO_SUCH_GLASS;
        DUE.due("P6 removeGlass " + what, desk.removeGlass(number), code);
        DUE.due("P8 index " + what, desk.index(number, 0), code);
        DUE.due("P9 placeByName " + what, desk.placeByName(number), code);
        DUE.due("P10 abbe " + what, desk.abbe(number), code);
        DUE.due("P11 partial " + what, desk.partial(number), code);
        DUE.due("P12 glassWithAbbe " + what, desk.glassWithAbbe(number), AchromatDesk.NOTHING);
        DUE.due("P29 surfacePower " + what, desk.surfacePower(number, 1), code);
    }

    private static void theDesigns(String what, CountedDesk desk, int number) {
        long code = AchromatDesk.NO_SUCH_GLASS;
        DUE.due("P13 doubletPower " + what, desk.doubletPower(number, number, 0, 0), code);
        DUE.due("P14 secondarySpectrum " + what, desk.secondarySpectrum(number, number, 0), code);
        DUE.due("P15 by spectrum " + what, desk.doubletAt(false, number), AchromatDesk.NOTHING);
        DUE.due("P15 by strain " + what, desk.doubletAt(true, number), AchromatDesk.NOTHING);
        DUE.due("P17 tripletPower " + what, desk.tripletPower(number, 0, 1, 0, 0), code);
    }

    private static void theSystem(String what, CountedDesk desk, int number) {
        DUE.due("P19 addLens " + what, desk.addLens(number, 0), AchromatDesk.NO_SUCH_GLASS);
        DUE.due("P20 removeLens " + what, desk.removeLens(number), AchromatDesk.NO_SUCH_LENS);
        DUE.due("P23 balancePower " + what, desk.balancePower(number), AchromatDesk.NO_SUCH_GLASS);
        DUE.due("P27 nearestPlate " + what, desk.nearestPlate(number), AchromatDesk.NOTHING);
        DUE.due("P28 bestSurfaces " + what, desk.bestSurfaces(number), AchromatDesk.NO_SUCH_LENS);
    }

    private static CountedDesk withALens() {
        CountedDesk desk = Due.deskWith(Due.BK7, Due.F2);
        desk.addLens(1, 1000);
        DUE.due("P28 bestSurfaces(0) without plates", desk.bestSurfaces(0), AchromatDesk.NOTHING);
        DUE.due("P29 surfacePower(0, 1) without plates", desk.surfacePower(0, 1), AchromatDesk.OUT_OF_RANGE);
        return desk;
    }

    private static void noPlates(String of, CountedDesk desk) {
        int[] radii = {MIN, 0, 1000, 1000000, MAX};
        for (int radius : radii) {
            DUE.due("P27 nearestPlate(" + radius + ") " + of, desk.nearestPlate(radius), AchromatDesk.NOTHING);
        }
        DUE.due("P26 plateCount() " + of, desk.plateCount(), 0);
        DUE.due("P25 the first plate " + of, desk.addPlate(1000000), 0);
        for (int radius : radii) {
            DUE.due("P27 nearestPlate(" + radius + ") of one " + of, desk.nearestPlate(radius), 0);
        }
    }

    private static void noGlassButPlates() {
        CountedDesk desk = new CountedDesk();
        desk.addPlate(1000);
        desk.addPlate(2000);
        DUE.due("P28 plates, but no lens", desk.bestSurfaces(0), AchromatDesk.NO_SUCH_LENS);
        DUE.due("P29 plates, but no glass", desk.surfacePower(0, 10), AchromatDesk.NO_SUCH_GLASS);
        DUE.due("P30 of two plates alone", desk.digest(), -2148854080078940767L);
    }

    private static void desksAreApart() {
        CountedDesk one = Desks.rich();
        CountedDesk other = new CountedDesk();
        DUE.due("P1 a new desk beside a rich one", other.digest(), NEW_DIGEST);
        DUE.due("P2 append to the new one", other.append('A'), 1);
        DUE.due("P25 addPlate to the new one", other.addPlate(80000), 0);
        DUE.due("P30 the rich one is as it was", one.digest(), -3159568912972595622L);
    }
}
