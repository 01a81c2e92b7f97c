/**
 * "Where several errors apply, the one that is listed first is returned": for each method with more
 * than one error code, every set of errors that can apply at once.
 */
final class ErrorOrderTest {
    private static final int MIN = Integer.MIN_VALUE;
    private static final int MAX = Integer.MAX_VALUE;
    private static final Due DUE = new Due();

    public static void main(String[] args) {
        append();
        addGlassWithAWrongText();
        addGlassWithWrongIndices();
        addGlassFullBeforeDuplicate();
        index();
        doubletPower();
        secondarySpectrum();
        tripletPower();
        addLens();
        findWrongGlass();
        addPlate();
        bestSurfaces();
        surfacePower();
        DUE.end();
    }

    private static void append() {
        CountedDesk desk = new CountedDesk();
        Due.type(desk, "1234567890123456789012345678");
        int[] wrong = {MIN, -1, 31, 127, MAX};
        for (int ch : wrong) {
            DUE.due("P2 append(" + ch + ") to 28 signs", desk.append(ch), AchromatDesk.OUT_OF_RANGE);
        }
        DUE.due("P2 append(32) to 28 signs", desk.append(32), AchromatDesk.FULL);
    }

    private static CountedDesk twentyAnd(String text) {
        CountedDesk desk = Desks.twentyGlasses();
        Due.type(desk, text);
        return desk;
    }

    private static void full(String text, long code) {
        DUE.due("P5 addGlass() of '" + text + "' to 20 glasses", twentyAnd(text).addGlass(), code);
    }

    private static void one(String text, long code) {
        CountedDesk desk = Due.deskWith(Due.BK7);
        Due.type(desk, text);
        DUE.due("P5 addGlass() of '" + text + "' to BK7", desk.addGlass(), code);
    }

    private static void addGlassWithAWrongText() {
        one("BK7", AchromatDesk.INVALID_GLASS);
        one("BK7 152238 151680 1514320", AchromatDesk.INVALID_GLASS);
        one("K5 100000 200000 300000 ", AchromatDesk.INVALID_GLASS);
        one("BK7 100000 200000 30000", AchromatDesk.INVALID_GLASS);
        full("", AchromatDesk.INVALID_GLASS);
        full("K 152238 151680 1514320", AchromatDesk.INVALID_GLASS);
        full("K 100000 200000 30000", AchromatDesk.INVALID_GLASS);
        full("Q 152238 151680 15143", AchromatDesk.INVALID_GLASS);
        full("Q 100000 200000 300000 ", AchromatDesk.INVALID_GLASS);
    }

    private static void addGlassWithWrongIndices() {
        one("BK7 130001 130000 129999", AchromatDesk.OUT_OF_RANGE);
        one("BK7 151432 151680 152238", AchromatDesk.OUT_OF_RANGE);
        full("K 230001 230000 229999", AchromatDesk.OUT_OF_RANGE);
        full("Q 160000 155000 150000", AchromatDesk.OUT_OF_RANGE);
    }

    private static void addGlassFullBeforeDuplicate() {
        full("K 152238 151680 151432", AchromatDesk.FULL);
        full("Q 152238 151680 151432", AchromatDesk.FULL);
        full("J 230000 229999 220001", AchromatDesk.FULL);
        one("BK7 152238 151680 151432", AchromatDesk.DUPLICATE);
    }

    private static void index() {
        CountedDesk desk = Due.deskWith(Due.BK7);
        int[] noGlass = {MIN, -1, 1, MAX};
        int[] noColour = {MIN, -1, 3, MAX};
        for (int glass : noGlass) {
            for (int colour : noColour) {
                DUE.due("P8 index(" + glass + ", " + colour + ")",
                    desk.index(glass, colour), AchromatDesk.NO_SUCH_GLASS);
            }
        }
        DUE.due("P8 of no glass", new CountedDesk().index(0, 3), AchromatDesk.NO_SUCH_GLASS);
    }

    private static void doubletPower() {
        CountedDesk desk = Due.deskWith(Due.BK7, Due.F2);
        long noGlass = AchromatDesk.NO_SUCH_GLASS;
        DUE.due("P13 no first, power", desk.doubletPower(2, 0, 10001, 0), noGlass);
        DUE.due("P13 no second, power", desk.doubletPower(0, -1, -10001, 0), noGlass);
        DUE.due("P13 no first, lens", desk.doubletPower(-1, 0, 0, 2), noGlass);
        DUE.due("P13 no second, lens", desk.doubletPower(0, 2, 0, -1), noGlass);
        DUE.due("P13 neither, power, lens", desk.doubletPower(MIN, MAX, MAX, MIN), noGlass);
        DUE.due("P13 neither, and both the same", desk.doubletPower(2, 2, 0, 0), noGlass);
        DUE.due("P13 E is 0, power", desk.doubletPower(1, 1, 10001, 0), AchromatDesk.OUT_OF_RANGE);
        DUE.due("P13 E is 0, lens", desk.doubletPower(1, 1, 0, 2), AchromatDesk.OUT_OF_RANGE);
        DUE.due("P13 E is 0, power, lens", desk.doubletPower(1, 1, MIN, -1), AchromatDesk.OUT_OF_RANGE);
        DUE.due("P13 E is 0", desk.doubletPower(1, 1, 0, 0), AchromatDesk.NOTHING);
    }

    private static void secondarySpectrum() {
        CountedDesk desk = Due.deskWith(Due.BK7, Due.F2);
        long noGlass = AchromatDesk.NO_SUCH_GLASS;
        DUE.due("P14 no first, power", desk.secondarySpectrum(2, 0, 10001), noGlass);
        DUE.due("P14 no second, power", desk.secondarySpectrum(0, -1, -10001), noGlass);
        DUE.due("P14 neither, power", desk.secondarySpectrum(MAX, MIN, MIN), noGlass);
        DUE.due("P14 neither, and both the same", desk.secondarySpectrum(-1, -1, 0), noGlass);
        DUE.due("P14 E is 0, power over", desk.secondarySpectrum(0, 0, 10001), AchromatDesk.OUT_OF_RANGE);
        DUE.due("P14 E is 0, power under", desk.secondarySpectrum(0, 0, -10001), AchromatDesk.OUT_OF_RANGE);
        DUE.due("P14 E is 0", desk.secondarySpectrum(0, 0, 0), AchromatDesk.NOTHING);
    }

    private static void tripletPower() {
        CountedDesk desk = Due.deskWith(
            "A 150200 150100 150000", "B 160400 160200 160000", "C 151000 150500 150000");
        long noGlass = AchromatDesk.NO_SUCH_GLASS;
        DUE.due("P17 none, all the same", desk.tripletPower(3, 3, 3, 0, 0), noGlass);
        DUE.due("P17 no first, the others the same", desk.tripletPower(-1, 0, 0, 0, 0), noGlass);
        DUE.due("P17 no second, the others the same", desk.tripletPower(1, 3, 1, 0, 0), noGlass);
        DUE.due("P17 no third, the others the same", desk.tripletPower(2, 2, MAX, 0, 0), noGlass);
        DUE.due("P17 no third, power", desk.tripletPower(0, 1, 3, 10001, 0), noGlass);
        DUE.due("P17 no first, lens", desk.tripletPower(MIN, 1, 2, 0, 3), noGlass);
        DUE.due("P17 no second, same, power, lens", desk.tripletPower(0, 3, 0, MIN, MAX), noGlass);
        DUE.due("P17 same, power", desk.tripletPower(0, 0, 1, -10001, 0), AchromatDesk.DUPLICATE);
        DUE.due("P17 same, lens", desk.tripletPower(0, 1, 0, 0, -1), AchromatDesk.DUPLICATE);
        DUE.due("P17 same, power, lens", desk.tripletPower(1, 0, 0, MAX, 3), AchromatDesk.DUPLICATE);
        DUE.due("P17 T is 0, power", desk.tripletPower(0, 1, 2, 10001, 0), AchromatDesk.OUT_OF_RANGE);
        DUE.due("P17 T is 0, lens", desk.tripletPower(0, 1, 2, 0, 3), AchromatDesk.OUT_OF_RANGE);
        DUE.due("P17 T is 0, power, lens", desk.tripletPower(0, 1, 2, MIN, -1), AchromatDesk.OUT_OF_RANGE);
        DUE.due("P17 T is 0", desk.tripletPower(0, 1, 2, 0, 0), AchromatDesk.NOTHING);
    }

    private static void addLens() {
        CountedDesk desk = Desks.fullOfLensesAndPlates();
        DUE.due("P19 a ninth, no glass", desk.addLens(2, 0), AchromatDesk.NO_SUCH_GLASS);
        DUE.due("P19 a ninth, no glass, power", desk.addLens(-1, MAX), AchromatDesk.NO_SUCH_GLASS);
        DUE.due("P19 a ninth, power over", desk.addLens(0, 10000001), AchromatDesk.OUT_OF_RANGE);
        DUE.due("P19 a ninth, power under", desk.addLens(0, -10000001), AchromatDesk.OUT_OF_RANGE);
        DUE.due("P19 a ninth", desk.addLens(0, 0), AchromatDesk.FULL);
        DUE.due("P19 of no glass, power", new CountedDesk().addLens(0, MIN), AchromatDesk.NO_SUCH_GLASS);
        DUE.due("P19 no glass, power", Due.deskWith(Due.BK7).addLens(1, 10000001), AchromatDesk.NO_SUCH_GLASS);
    }

    private static void findWrongGlass() {
        long[] wrong = {Long.MIN_VALUE, -1000000000001L, 1000000000001L, Long.MAX_VALUE};
        for (long far : wrong) {
            findWrongGlassOfNothing(new CountedDesk(), far);
            findWrongGlassOfNothing(Due.deskWith(Due.BK7, Due.F2), far);
            CountedDesk oneGlass = Due.deskWith(Due.BK7);
            oneGlass.addLens(0, 1);
            findWrongGlassOfNothing(oneGlass, far);
        }
    }

    private static void findWrongGlassOfNothing(CountedDesk desk, long far) {
        DUE.due("P24 nothing, F " + far, desk.findWrongGlass(far, 0, 0), AchromatDesk.OUT_OF_RANGE);
        DUE.due("P24 nothing, d " + far, desk.findWrongGlass(0, far, 0), AchromatDesk.OUT_OF_RANGE);
        DUE.due("P24 nothing, C " + far, desk.findWrongGlass(0, 0, far), AchromatDesk.OUT_OF_RANGE);
        DUE.due("P24 nothing", desk.findWrongGlass(0, 0, 0), AchromatDesk.NOTHING);
    }

    private static void addPlate() {
        CountedDesk desk = Desks.fullOfLensesAndPlates();
        int[] wrong = {MIN, 0, 999, 1000001, MAX};
        for (int radius : wrong) {
            DUE.due("P25 a 17th of " + radius, desk.addPlate(radius), AchromatDesk.OUT_OF_RANGE);
        }
        for (int radius = 1000; radius <= 16000; radius += 1000) {
            DUE.due("P25 a 17th of " + radius, desk.addPlate(radius), AchromatDesk.DUPLICATE);
        }
        DUE.due("P25 a 17th of 1001", desk.addPlate(1001), AchromatDesk.FULL);
    }

    private static void bestSurfaces() {
        DUE.due("P28 no lens, no plates", new CountedDesk().bestSurfaces(0), AchromatDesk.NO_SUCH_LENS);
        CountedDesk desk = Due.deskWith(Due.BK7);
        desk.addLens(0, 1);
        int[] wrong = {MIN, -1, 1, MAX};
        for (int lens : wrong) {
            DUE.due("P28 no plates, lens " + lens, desk.bestSurfaces(lens), AchromatDesk.NO_SUCH_LENS);
        }
        DUE.due("P28 no plates", desk.bestSurfaces(0), AchromatDesk.NOTHING);
    }

    private static void surfacePower() {
        CountedDesk desk = Due.deskWith(Due.BK7);
        desk.addPlate(1000);
        int[] noGlass = {MIN, -1, 1, MAX};
        int[] noChoice = {MIN, -1, 0, 3, 4, 10, 1000, MAX};
        for (int glass : noGlass) {
            for (int choice : noChoice) {
                DUE.due("P29 surfacePower(" + glass + ", " + choice + ")",
                    desk.surfacePower(glass, choice), AchromatDesk.NO_SUCH_GLASS);
            }
        }
        DUE.due("P29 of nothing", new CountedDesk().surfacePower(0, -1), AchromatDesk.NO_SUCH_GLASS);
    }
}
