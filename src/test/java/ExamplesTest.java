/** The three examples of the document, call by call. */
final class ExamplesTest {
    private static final Due DUE = new Due();

    public static void main(String[] args) {
        platesAndTheNearest();
        aNumberThatBeginsWithZero();
        aDeskWithoutGlassesAndLenses();
        DUE.end();
    }

    private static void platesAndTheNearest() {
        AchromatDesk desk = new AchromatDesk();
        DUE.due("1: addPlate(20000)", desk.addPlate(20000), 0);
        DUE.due("1: addPlate(50000)", desk.addPlate(50000), 1);
        DUE.due("1: addPlate(50000)", desk.addPlate(50000), -9000000000000000006L);
        DUE.due("1: addPlate(999)", desk.addPlate(999), -9000000000000000001L);
        DUE.due("1: nearestPlate(35000)", desk.nearestPlate(35000), 0);
        DUE.due("1: nearestPlate(35001)", desk.nearestPlate(35001), 1);
        DUE.due("1: nearestPlate(-7)", desk.nearestPlate(-7), 0);
        DUE.due("1: plateCount()", desk.plateCount(), 2);
    }

    private static void aNumberThatBeginsWithZero() {
        AchromatDesk desk = new AchromatDesk();
        DUE.due("2: append(66)", desk.append(66), 1);
        DUE.due("2: append(75)", desk.append(75), 2);
        DUE.due("2: append(55)", desk.append(55), 3);
        DUE.due("2: append(32)", desk.append(32), 4);
        DUE.due("2: append(48)", desk.append(48), 5);
        DUE.due("2: append(53)", desk.append(53), 6);
        DUE.due("2: append(50)", desk.append(50), 7);
        DUE.due("2: errorPosition()", desk.errorPosition(), 4);
        DUE.due("2: addGlass()", desk.addGlass(), -9000000000000000005L);
        DUE.due("2: clearBuffer()", desk.clearBuffer(), 7);
        DUE.due("2: glassCount()", desk.glassCount(), 0);
        DUE.due("2: bestTriplet()", desk.bestTriplet(), -9000000000000000008L);
        DUE.due("2: doubletAt(true, 0)", desk.doubletAt(true, 0), -9000000000000000008L);
    }

    private static void aDeskWithoutGlassesAndLenses() {
        AchromatDesk desk = new AchromatDesk();
        DUE.due("3: systemPower(1)", desk.systemPower(1), 0);
        DUE.due("3: systemPower(3)", desk.systemPower(3), -9000000000000000001L);
        DUE.due("3: addLens(0, 1000)", desk.addLens(0, 1000), -9000000000000000002L);
        DUE.due("3: findWrongGlass(0, 0, 0)", desk.findWrongGlass(0, 0, 0), -9000000000000000008L);
        DUE.due("3: removeLens(0)", desk.removeLens(0), -9000000000000000003L);
        DUE.due("3: abbe(0)", desk.abbe(0), -9000000000000000002L);
        DUE.due("3: glassWithAbbe(50000)", desk.glassWithAbbe(50000), -9000000000000000008L);
        DUE.due("3: balancePower(0)", desk.balancePower(0), -9000000000000000002L);
    }
}
