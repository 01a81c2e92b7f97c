/** Promise 30, and that a call that answers an error changes nothing. */
final class DigestTest {
    private static final Due DUE = new Due();

    public static void main(String[] args) {
        knownDigests();
        errorCodesAsValues();
        fullAndEmptyParts();
        everyPartCounts();
        digestChangesNothing();
        errorsChangeNothing();
        DUE.end();
    }

    private static void knownDigests() {
        DUE.due("P30 of a new desk", new CountedDesk().digest(), 5283485657078775671L);
        DUE.due("P30 of a desk with one glass", Due.deskWith(Due.BK7).digest(), 7340540853540392555L);
        DUE.due("P30 of a rich desk", Desks.rich().digest(), -3159568912972595622L);
        // Here findWrongGlass answers another number if two of the three powers are mixed up.
        CountedDesk desk = Due.deskWith(Due.BK7, Due.F2, Due.SF10, Due.LAK9, Due.FK51);
        desk.addLens(1, 7405884);
        desk.addLens(4, -968403);
        desk.addLens(0, 7852377);
        desk.addLens(1, -470236);
        desk.addPlate(1000);
        desk.addPlate(1000000);
        DUE.due("P30 of a desk with an empty buffer", desk.digest(), -4909511108028855579L);
    }

    /** "Where a method returns an error code, the code is the value": each method that can, alone. */
    private static void errorCodesAsValues() {
        CountedDesk noPlates = Due.deskWith(Due.BK7);
        noPlates.addLens(0, 1000);
        DUE.due("P30 no plates and no other glass", noPlates.digest(), -2441735145619292067L);
        noPlates.addPlate(1000);
        DUE.due("P30 no other glass", noPlates.digest(), 1677473159135582833L);
        DUE.due("P30 no doublet, as E is 0",
            Due.deskWith("P 150150 150000 149950", "R 200100 200000 199700").digest(), 4078307282193422466L);
        DUE.due("P30 one doublet", Due.deskWith(Due.BK7, Due.F2).digest(), -2343306499219895866L);
        DUE.due("P30 three doublets", Due.deskWith(Due.BK7, Due.F2, Due.SF10).digest(), -7902015187333878183L);
        DUE.due("P30 four doublets, no triplet", Due.deskWith(Due.BK7, "U 152238 151680 151432", Due.F2,
            "V 163208 162004 161506").digest(), -1378376927004805637L);
        DUE.due("P30 no triplet, as T is 0", Due.deskWith("A 150200 150100 150000",
            "B 160400 160200 160000", "C 151000 150500 150000").digest(), 4603349488768240460L);
    }

    private static void fullAndEmptyParts() {
        CountedDesk plates = new CountedDesk();
        for (int plate = 1; plate <= 16; plate++) {
            plates.addPlate(1000 * plate);
        }
        DUE.due("P30 16 plates alone", plates.digest(), 2014596142676071623L);
        CountedDesk blank = new CountedDesk();
        blank.append(32);
        DUE.due("P30 a blank alone", blank.digest(), -2232641293943918680L);
        CountedDesk buffer = new CountedDesk();
        Due.type(buffer, "~".repeat(28));
        DUE.due("P30 28 signs alone", buffer.digest(), -8785029977852051053L);
        CountedDesk lenses = Due.deskWith(Due.BK7, Due.F2);
        for (int lens = 0; lens < 8; lens++) {
            lenses.addLens(1, -10000000);
        }
        lenses.addPlate(1000000);
        DUE.due("P30 8 lenses and a plate", lenses.digest(), -1126125883644238347L);
    }

    private static void differs(String what, CountedDesk desk) {
        DUE.isTrue("P30 the digest differs behind " + what, desk.digest() != Desks.rich().digest());
    }

    private static void everyPartCounts() {
        CountedDesk desk = Desks.rich();
        desk.append(32);
        differs("append(32)", desk);
        desk.clearBuffer();
        differs("clearBuffer()", desk);
        Due.type(desk, "K5 1~");
        DUE.due("P30 with the same buffer again", desk.digest(), Desks.rich().digest());
        desk.removeLens(2);
        differs("removeLens(2)", desk);
        desk.addLens(3, 123456);
        differs("another power", desk);
        desk.removeLens(2);
        desk.addLens(2, 123457);
        differs("another glass of a lens", desk);
        desk = Desks.rich();
        desk.addPlate(1000);
        differs("addPlate(1000)", desk);
        desk = Desks.rich();
        desk.removeGlass(4);
        differs("removeGlass(4)", desk);
    }

    private static void digestChangesNothing() {
        CountedDesk desk = Desks.rich();
        long first = desk.digest();
        desk.doubletAt(true, 3);
        desk.doubletCount();
        desk.bestTriplet();
        desk.bestSurfaces(1);
        desk.findWrongGlass(1, 2, 3);
        desk.errorPosition();
        DUE.due("P30 digest() again", desk.digest(), first);
    }

    private static void errorsChangeNothing() {
        CountedDesk desk = Desks.rich();
        long before = desk.digest();
        long[] answers = {
            desk.append(31), desk.append(127), desk.addGlass(), desk.removeGlass(0), desk.removeGlass(5),
            desk.index(5, 0), desk.index(0, 3), desk.placeByName(-1), desk.abbe(5), desk.partial(5),
            desk.glassWithAbbe(Integer.MAX_VALUE), desk.doubletPower(0, 0, 1, 0),
            desk.secondarySpectrum(1, 1, 1), desk.doubletAt(false, 10), desk.tripletPower(0, 0, 1, 1, 1),
            desk.addLens(5, 1), desk.addLens(0, 10000001), desk.removeLens(3), desk.systemPower(3),
            desk.balancePower(5), desk.findWrongGlass(Long.MAX_VALUE, 0, 0), desk.addPlate(999),
            desk.addPlate(80000), desk.bestSurfaces(3), desk.surfacePower(0, 0)};
        for (int call = 0; call < answers.length; call++) {
            DUE.isTrue("P30 the wrong call " + call + " answers an error",
                answers[call] < -9000000000000000000L);
        }
        DUE.due("P30 digest() behind errors", desk.digest(), before);
        Due.type(desk, "0123456789012345678901234");
        before = desk.digest();
        DUE.due("P30 append(65) to a full buffer", desk.append(65), AchromatDesk.FULL);
        DUE.due("P30 digest() behind it", desk.digest(), before);
    }
}
