/** Promise 30, and that a call that answers an error changes nothing. */
final class DigestTest {
    private static final Due DUE = new Due();

    public static void main(String[] args) {
        knownDigests();
        everyPartCounts();
        digestChangesNothing();
        errorsChangeNothing();
        DUE.end();
    }

    private static AchromatDesk rich() {
        AchromatDesk desk = Due.deskWith(Due.BK7, Due.F2, Due.SF10, Due.LAK9, Due.FK51);
        desk.addLens(0, 5000000);
        desk.addLens(1, -2000000);
        desk.addLens(3, 123457);
        desk.addPlate(80000);
        desk.addPlate(100000);
        desk.addPlate(250000);
        desk.addPlate(33333);
        Due.type(desk, "K5 1~");
        return desk;
    }

    private static void knownDigests() {
        DUE.due("P30 of a new desk", new AchromatDesk().digest(), 5283485657078775671L);
        DUE.due("P30 of a desk with one glass", Due.deskWith(Due.BK7).digest(), 7340540853540392555L);
        DUE.due("P30 of a rich desk", rich().digest(), -3159568912972595622L);
        // Here findWrongGlass answers another number if two of the three powers are mixed up.
        AchromatDesk desk = Due.deskWith(Due.BK7, Due.F2, Due.SF10, Due.LAK9, Due.FK51);
        desk.addLens(1, 7405884);
        desk.addLens(4, -968403);
        desk.addLens(0, 7852377);
        desk.addLens(1, -470236);
        desk.addPlate(1000);
        desk.addPlate(1000000);
        DUE.due("P30 of a desk with an empty buffer", desk.digest(), -4909511108028855579L);
    }

    private static void differs(String what, AchromatDesk desk) {
        DUE.isTrue("P30 the digest differs behind " + what, desk.digest() != rich().digest());
    }

    private static void everyPartCounts() {
        AchromatDesk desk = rich();
        desk.append(32);
        differs("append(32)", desk);
        desk.clearBuffer();
        differs("clearBuffer()", desk);
        Due.type(desk, "K5 1~");
        DUE.due("P30 with the same buffer again", desk.digest(), rich().digest());
        desk.removeLens(2);
        differs("removeLens(2)", desk);
        desk.addLens(3, 123456);
        differs("another power", desk);
        desk.removeLens(2);
        desk.addLens(2, 123457);
        differs("another glass of a lens", desk);
        desk = rich();
        desk.addPlate(1000);
        differs("addPlate(1000)", desk);
        desk = rich();
        desk.removeGlass(4);
        differs("removeGlass(4)", desk);
    }

    private static void digestChangesNothing() {
        AchromatDesk desk = rich();
        long first = desk.digest();
        desk.doubletAt(true, 3);
        desk.doubletCount();
        desk.bestTriplet();
        desk.bestSurfaces(1);
        desk.findWrongGlass(1, 2, 3);
        desk.errorPosition();
        DUE.due("P30 digest() again", desk.digest(), first);
    }

    private static void errorsChangeNothing() {
        AchromatDesk desk = rich();
        long before = desk.digest();
        long[] answers = {
            desk.append(31), desk.append(127), desk.addGlass(), desk.removeGlass(0), desk.removeGlass(5),
            desk.index(5, 0), desk.index(0, 3), desk.placeByName(-1), desk.abbe(5), desk.partial(5),
            desk.glassWithAbbe(Integer.MAX_VALUE), desk.doubletPower(0, 0, 1, 0),
            desk.secondarySpectrum(1, 1, 1), desk.doubletAt(false, 10), desk.tripletPower(0, 0, 1, 1, 1),
            desk.addLens(5, 1), desk.addLens(0, 10000001), desk.removeLens(3), desk.systemPower(3),
            desk.balancePower(5), desk.findWrongGlass(Long.MAX_VALUE, 0, 0), desk.addPlate(999),
            desk.addPlate(80000), desk.bestSurfaces(3), desk.surfacePower(0, 0)};
        for (int call = 0; call < answers.length; call++) {
            DUE.isTrue("P30 the wrong call " + call + " answers an error",
                answers[call] < -9000000000000000000L);
        }
        DUE.due("P30 digest() behind errors", desk.digest(), before);
        Due.type(desk, "0123456789012345678901234");
        before = desk.digest();
        DUE.due("P30 append(65) to a full buffer", desk.append(65), AchromatDesk.FULL);
        DUE.due("P30 digest() behind it", desk.digest(), before);
    }
}
