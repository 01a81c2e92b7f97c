/** A desk with 20 glasses, 8 lenses and 16 plates, and a full buffer. */
final class FullDeskTest {
    private static final long FULL_DIGEST = -8024661616569125898L;
    private static final Due DUE = new Due();

    public static void main(String[] args) {
        nothingMoreGoesIn();
        theFirstAndTheLastGlass();
        theDesigns();
        theSystem();
        thePlates();
        removeGlasses();
        removeAllGlasses();
        removeLenses();
        aFullBuffer();
        theLastCall();
        DUE.end();
    }

    private static void nothingMoreGoesIn() {
        CountedDesk desk = Desks.full();
        Due.type(desk, "K 152238 151680 151432");
        DUE.due("P5 a 21st glass", desk.addGlass(), AchromatDesk.FULL);
        DUE.due("P19 a ninth lens", desk.addLens(19, 0), AchromatDesk.FULL);
        DUE.due("P25 a 17th plate", desk.addPlate(1002), AchromatDesk.FULL);
        DUE.due("P30 digest() behind them", desk.digest(), 1078776726901390735L);
        DUE.due("P3 clearBuffer()", desk.clearBuffer(), 22);
        DUE.due("P30 digest() of a full desk", desk.digest(), FULL_DIGEST);
    }

    private static void theFirstAndTheLastGlass() {
        CountedDesk desk = Desks.full();
        DUE.due("P7 glassCount()", desk.glassCount(), 20);
        DUE.due("P8 index(0, 0)", desk.index(0, 0), 173566);
        DUE.due("P8 index(19, 0)", desk.index(19, 0), 230000);
        DUE.due("P8 index(19, 1)", desk.index(19, 1), 229999);
        DUE.due("P8 index(19, 2)", desk.index(19, 2), 220001);
        DUE.due("P8 index(20, 0)", desk.index(20, 0), AchromatDesk.NO_SUCH_GLASS);
        DUE.due("P9 the first name", desk.placeByName(1), 0);
        DUE.due("P9 the last name", desk.placeByName(2), 19);
        DUE.due("P9 placeByName(19)", desk.placeByName(19), 8);
        DUE.due("P9 placeByName(20)", desk.placeByName(20), AchromatDesk.NO_SUCH_GLASS);
        DUE.due("P10 abbe(19)", desk.abbe(19), 13001);
        DUE.due("P10 abbe(20)", desk.abbe(20), AchromatDesk.NO_SUCH_GLASS);
        DUE.due("P11 partial(19)", desk.partial(19), 10);
        DUE.due("P11 partial(20)", desk.partial(20), AchromatDesk.NO_SUCH_GLASS);
        DUE.due("P12 glassWithAbbe(3000)", desk.glassWithAbbe(3000), 15);
        DUE.due("P12 glassWithAbbe(3001)", desk.glassWithAbbe(3001), 19);
        DUE.due("P12 glassWithAbbe(64999500)", desk.glassWithAbbe(64999500), 10);
        DUE.due("P12 glassWithAbbe(64999501)", desk.glassWithAbbe(64999501), AchromatDesk.NOTHING);
    }

    private static void theDesigns() {
        CountedDesk desk = Desks.full();
        DUE.due("P13 (19, 0, 10000, 0)", desk.doubletPower(19, 0, 10000, 0), -1958677);
        DUE.due("P13 (0, 19, -10000, 1)", desk.doubletPower(0, 19, -10000, 1), 1958676);
        DUE.due("P13 (0, 20, 0, 0)", desk.doubletPower(0, 20, 0, 0), AchromatDesk.NO_SUCH_GLASS);
        DUE.due("P14 (19, 18, 10000)", desk.secondarySpectrum(19, 18, 10000), 164942145);
        DUE.due("P14 (20, 0, 0)", desk.secondarySpectrum(20, 0, 0), AchromatDesk.NO_SUCH_GLASS);
        int[] places = {0, 1, 94, 188, 189};
        long[] bySpectrum = {1005, 1106, 201, 1915, 1200};
        long[] byStrain = {1015, 1019, 8, 212, 1200};
        for (int at = 0; at < places.length; at++) {
            DUE.due("P15 by spectrum, " + places[at], desk.doubletAt(false, places[at]), bySpectrum[at]);
            DUE.due("P15 by strain, " + places[at], desk.doubletAt(true, places[at]), byStrain[at]);
        }
        DUE.due("P15 by spectrum, 190", desk.doubletAt(false, 190), AchromatDesk.NOTHING);
        DUE.due("P15 by strain, 190", desk.doubletAt(true, 190), AchromatDesk.NOTHING);
        DUE.due("P16 doubletCount()", desk.doubletCount(), 190);
        DUE.due("P17 (17, 18, 19, 10000, 2)", desk.tripletPower(17, 18, 19, 10000, 2), 1642);
        DUE.due("P17 (19, 18, 17, 10000, 1)", desk.tripletPower(19, 18, 17, 10000, 1), -46089);
        DUE.due("P17 (18, 19, 20, 0, 0)", desk.tripletPower(18, 19, 20, 0, 0), AchromatDesk.NO_SUCH_GLASS);
        DUE.due("P18 bestTriplet()", desk.bestTriplet(), 20810);
    }

    private static void theSystem() {
        CountedDesk desk = Desks.full();
        DUE.due("P21 lensCount()", desk.lensCount(), 8);
        DUE.due("P22 systemPower(0)", desk.systemPower(0), 6945703426L);
        DUE.due("P22 systemPower(1)", desk.systemPower(1), 3580245000L);
        DUE.due("P22 systemPower(2)", desk.systemPower(2), 4336435716L);
        DUE.due("P22 systemPower(3)", desk.systemPower(3), AchromatDesk.OUT_OF_RANGE);
        DUE.due("P23 balancePower(0)", desk.balancePower(0), -207120207);
        DUE.due("P23 balancePower(19)", desk.balancePower(19), -33923612);
        DUE.due("P23 balancePower(20)", desk.balancePower(20), AchromatDesk.NO_SUCH_GLASS);
        DUE.due("P24 the system's own powers", desk.findWrongGlass(6945703426L, 3580245000L, 4336435716L), 400);
        DUE.due("P24 the last lens of the last glass",
            desk.findWrongGlass(36945033781L, 36911797281L, 34335766072L), 719);
        DUE.due("P24 the last lens of the glass 18",
            desk.findWrongGlass(10073598850L, 9839035747L, 10486896753L), 718);
    }

    private static void thePlates() {
        CountedDesk desk = Desks.full();
        long[] best = {7120, 4103, 1011, 8143, 1023, 1023, 1020, 9111};
        for (int lens = 0; lens < best.length; lens++) {
            DUE.due("P28 bestSurfaces(" + lens + ")", desk.bestSurfaces(lens), best[lens]);
        }
        DUE.due("P28 bestSurfaces(8)", desk.bestSurfaces(8), AchromatDesk.NO_SUCH_LENS);
        DUE.due("P26 plateCount()", desk.plateCount(), 16);
        DUE.due("P27 nearestPlate(450000)", desk.nearestPlate(450000), 15);
        DUE.due("P27 nearestPlate(450001)", desk.nearestPlate(450001), 14);
        DUE.due("P29 (19, 15151)", desk.surfacePower(19, 15151), 6499950);
        DUE.due("P29 (19, 2)", desk.surfacePower(19, 2), -2599980000L);
        DUE.due("P29 (19, 15150)", desk.surfacePower(19, 15150), AchromatDesk.OUT_OF_RANGE);
        DUE.due("P29 (19, 15153)", desk.surfacePower(19, 15153), AchromatDesk.OUT_OF_RANGE);
        DUE.due("P29 (19, 15160)", desk.surfacePower(19, 15160), AchromatDesk.OUT_OF_RANGE);
        DUE.due("P29 (19, 16150)", desk.surfacePower(19, 16150), AchromatDesk.OUT_OF_RANGE);
        DUE.due("P29 (20, 1)", desk.surfacePower(20, 1), AchromatDesk.NO_SUCH_GLASS);
    }

    private static void removeGlasses() {
        CountedDesk desk = Desks.full();
        DUE.due("P6 removeGlass(0), in use", desk.removeGlass(0), AchromatDesk.IN_USE);
        DUE.due("P6 removeGlass(19), in use", desk.removeGlass(19), AchromatDesk.IN_USE);
        DUE.due("P6 removeGlass(20)", desk.removeGlass(20), AchromatDesk.NO_SUCH_GLASS);
        DUE.due("P6 removeGlass(18)", desk.removeGlass(18), 19);
        DUE.due("P30 digest() without 18", desk.digest(), 7120697215224124369L);
        DUE.due("P6 removeGlass(18), in use now", desk.removeGlass(18), AchromatDesk.IN_USE);
        DUE.due("P6 removeGlass(19), none now", desk.removeGlass(19), AchromatDesk.NO_SUCH_GLASS);
        DUE.due("P6 removeGlass(1)", desk.removeGlass(1), 18);
        DUE.due("P30 digest() without 18 and 1", desk.digest(), -2450287702007585577L);
        CountedDesk first = Desks.twentyGlasses();
        DUE.due("P6 removeGlass(0)", first.removeGlass(0), 19);
        DUE.due("P30 digest() without the first", first.digest(), -1130239747578105061L);
        CountedDesk last = Desks.twentyGlasses();
        DUE.due("P6 removeGlass(19)", last.removeGlass(19), 19);
        DUE.due("P30 digest() without the last", last.digest(), 3328629810803394713L);
        Due.type(last, "J 230000 229999 220001");
        DUE.due("P5 the last again", last.addGlass(), 19);
        DUE.due("P30 digest() of 20 glasses again", last.digest(), 7883396312087252183L);
    }

    private static void removeAllGlasses() {
        CountedDesk desk = Desks.twentyGlasses();
        for (int left = 19; left >= 0; left--) {
            DUE.due("P6 removeGlass(0), " + left + " are left", desk.removeGlass(0), left);
            DUE.due("P7 glassCount()", desk.glassCount(), left);
        }
        DUE.due("P6 removeGlass(0) of none", desk.removeGlass(0), AchromatDesk.NO_SUCH_GLASS);
        DUE.due("P30 digest() of an emptied desk", desk.digest(), 5283485657078775671L);
    }

    private static void removeLenses() {
        CountedDesk desk = Desks.full();
        DUE.due("P20 removeLens(8)", desk.removeLens(8), AchromatDesk.NO_SUCH_LENS);
        DUE.due("P20 removeLens(0)", desk.removeLens(0), 7);
        DUE.due("P30 digest() without the first lens", desk.digest(), 2016413945232667890L);
        DUE.due("P20 removeLens(7)", desk.removeLens(7), AchromatDesk.NO_SUCH_LENS);
        DUE.due("P19 addLens(19, 10000000)", desk.addLens(19, 10000000), 7);
        DUE.due("P30 digest() with another last lens", desk.digest(), -3622439773012506554L);
        DUE.due("P19 a ninth", desk.addLens(19, 10000000), AchromatDesk.FULL);
        DUE.due("P20 removeLens(7), the last", desk.removeLens(7), 7);
        DUE.due("P20 removeLens(6), the last", desk.removeLens(6), 6);
        DUE.due("P30 digest() of six lenses", desk.digest(), -8360637085225847653L);
        for (int left = 5; left >= 0; left--) {
            DUE.due("P20 removeLens(0), " + left + " are left", desk.removeLens(0), left);
        }
        DUE.due("P20 removeLens(0) of none", desk.removeLens(0), AchromatDesk.NO_SUCH_LENS);
        DUE.due("P6 removeGlass(19), free now", desk.removeGlass(19), 19);
    }

    private static void aFullBuffer() {
        CountedDesk desk = new CountedDesk();
        Due.type(desk, "ABCDEF 152238 151680 151432~");
        DUE.due("P2 a 29th sign", desk.append('~'), AchromatDesk.FULL);
        DUE.due("P4 errorPosition()", desk.errorPosition(), 27);
        DUE.due("P5 addGlass()", desk.addGlass(), AchromatDesk.INVALID_GLASS);
        DUE.due("P30 digest()", desk.digest(), -4407461562249423482L);
        DUE.due("P3 clearBuffer()", desk.clearBuffer(), 28);
        DUE.due("P30 digest() behind it", desk.digest(), 5283485657078775671L);
    }

    /** 460 calls for glasses, 8 for lenses, 16 for plates and 27 for signs: the digest is the 512th. */
    private static void theLastCall() {
        CountedDesk desk = Desks.full();
        Due.type(desk, "K 152238 151680 151432 ~~~~");
        DUE.due("one call is left", desk.callsLeft(), 1);
        DUE.due("P30 the 512th call", desk.digest(), 8607243761362397260L);
    }
}
