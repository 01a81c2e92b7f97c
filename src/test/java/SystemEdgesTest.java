/** The boundary cases of promises 19 to 24, and what the description says of the lens system. */
final class SystemEdgesTest {
    private static final int MIN = Integer.MIN_VALUE;
    private static final int MAX = Integer.MAX_VALUE;
    private static final long LIMIT = 1000000000000L;
    // A lens of EVEN with the power 50000 has the power 1000 * (n - 100000) for each colour.
    private static final String EVEN = "EVEN 150300 150000 149800";
    private static final String ABOVE = "ABOVE 150310 150010 149810";
    private static final String BELOW = "BELOW 150290 149990 149790";
    private static final Due DUE = new Due();

    public static void main(String[] args) {
        theLastAndTheFirstPowers();
        eightLenses();
        removeEachOfEight();
        noSuchLens();
        colours();
        eachLensIsRoundedDown();
        theStrongestSystems();
        balanceOfNoError();
        balanceIsRoundedDown();
        balanceOfTheStrongest();
        theLastAndTheFirstMeasures();
        noLensesOrFewerThanTwoGlasses();
        theLowestLensFirst();
        theLowestGlassNext();
        aboveAndBelowAreEquallyFar();
        theOwnGlassIsNoWrongOne();
        DUE.end();
    }

    private static void theLastAndTheFirstPowers() {
        CountedDesk desk = Due.deskWith(Due.BK7);
        int[] beyond = {MIN, -10000001, 10000001, MAX};
        for (int power : beyond) {
            DUE.due("P19 addLens(0, " + power + ")", desk.addLens(0, power), AchromatDesk.OUT_OF_RANGE);
            DUE.due("P21 lensCount() behind it", desk.lensCount(), 0);
        }
        int[] allowed = {-10000000, -9999999, -1, 0, 1, 9999999, 10000000};
        long sum = 0;
        for (int lens = 0; lens < allowed.length; lens++) {
            DUE.due("P19 addLens(0, " + allowed[lens] + ")", desk.addLens(0, allowed[lens]), lens);
            sum += 1000L * allowed[lens];
            DUE.due("P22 systemPower(1) behind it", desk.systemPower(1), sum);
        }
    }

    /** A desk whose lens number n has the power 10 to the n. */
    private static CountedDesk tens(int lenses) {
        CountedDesk desk = Due.deskWith(Due.BK7);
        int power = 1;
        for (int lens = 0; lens < lenses; lens++) {
            DUE.due("P19 the number of a lens", desk.addLens(0, lens == 7 ? 9000000 : power), lens);
            DUE.due("P21 lensCount()", desk.lensCount(), lens + 1);
            power *= 10;
        }
        return desk;
    }

    private static void eightLenses() {
        CountedDesk desk = tens(8);
        DUE.due("P19 a ninth", desk.addLens(0, 1), AchromatDesk.FULL);
        DUE.due("P21 lensCount() of eight", desk.lensCount(), 8);
        DUE.due("P22 systemPower(1) of eight", desk.systemPower(1), 10111111000L);
        DUE.due("P20 removeLens(7)", desk.removeLens(7), 7);
        DUE.due("P19 an eighth again", desk.addLens(0, 8000000), 7);
        DUE.due("P19 a ninth again", desk.addLens(0, 1), AchromatDesk.FULL);
        DUE.due("P22 systemPower(1) of eight again", desk.systemPower(1), 9111111000L);
    }

    private static void removeEachOfEight() {
        long[] powers = {1, 10, 100, 1000, 10000, 100000, 1000000, 9000000};
        for (int gone = 0; gone < 8; gone++) {
            CountedDesk desk = tens(8);
            long left = 10111111 - powers[gone];
            DUE.due("P20 removeLens(" + gone + ")", desk.removeLens(gone), 7);
            DUE.due("P20 systemPower(1) without " + gone, desk.systemPower(1), 1000 * left);
            DUE.due("P20 removeLens(7) of seven", desk.removeLens(7), AchromatDesk.NO_SUCH_LENS);
            int count = 7;
            for (int lens = 0; lens < 8; lens++) {
                if (lens != gone) {
                    left -= powers[lens];
                    count--;
                    DUE.due("P20 removeLens(0), which was " + lens, desk.removeLens(0), count);
                    DUE.due("P20 systemPower(1) without it", desk.systemPower(1), 1000 * left);
                }
            }
        }
    }

    private static void noSuchLens() {
        CountedDesk desk = tens(3);
        int[] wrong = {MIN, -1, 3, 7, 8, MAX};
        for (int lens : wrong) {
            DUE.due("P20 removeLens(" + lens + ")", desk.removeLens(lens), AchromatDesk.NO_SUCH_LENS);
        }
        DUE.due("P21 lensCount() behind them", desk.lensCount(), 3);
        DUE.due("P20 removeLens(2)", desk.removeLens(2), 2);
        DUE.due("P20 removeLens(2), none now", desk.removeLens(2), AchromatDesk.NO_SUCH_LENS);
        DUE.due("P20 removeLens(0)", desk.removeLens(0), 1);
        DUE.due("P20 removeLens(0)", desk.removeLens(0), 0);
        DUE.due("P20 removeLens(0), none now", desk.removeLens(0), AchromatDesk.NO_SUCH_LENS);
    }

    private static void colours() {
        CountedDesk none = Due.deskWith(Due.BK7);
        CountedDesk one = Due.deskWith(Due.BK7);
        one.addLens(0, 1);
        long[] powers = {1010, 1000, 995};
        for (int colour = -3; colour <= 5; colour++) {
            boolean isColour = colour >= 0 && colour <= 2;
            DUE.due("P22 systemPower(" + colour + ") of none",
                none.systemPower(colour), isColour ? 0 : AchromatDesk.OUT_OF_RANGE);
            DUE.due("P22 systemPower(" + colour + ")",
                one.systemPower(colour), isColour ? powers[colour] : AchromatDesk.OUT_OF_RANGE);
        }
        DUE.due("P22 systemPower(min)", one.systemPower(MIN), AchromatDesk.OUT_OF_RANGE);
        DUE.due("P22 systemPower(max)", one.systemPower(MAX), AchromatDesk.OUT_OF_RANGE);
    }

    private static CountedDesk many(int lenses, int power, String... glasses) {
        CountedDesk desk = Due.deskWith(glasses);
        for (int lens = 0; lens < lenses; lens++) {
            desk.addLens(0, power);
        }
        return desk;
    }

    private static void powers(CountedDesk desk, long forF, long forD, long forC) {
        DUE.due("P22 for F", desk.systemPower(0), forF);
        DUE.due("P22 for d", desk.systemPower(1), forD);
        DUE.due("P22 for C", desk.systemPower(2), forC);
    }

    /** The powers are 1010.8 and 995.2 for F and C: eight of them are rounded one by one. */
    private static void eachLensIsRoundedDown() {
        powers(many(1, 1, Due.BK7), 1010, 1000, 995);
        powers(many(8, 1, Due.BK7), 8080, 8000, 7960);
        powers(many(1, -1, Due.BK7), -1011, -1000, -996);
        powers(many(8, -1, Due.BK7), -8088, -8000, -7968);
        powers(many(8, 0, Due.BK7), 0, 0, 0);
        CountedDesk opposite = many(1, 5, Due.BK7);
        opposite.addLens(0, -5);
        powers(opposite, -1, 0, -1);
    }

    private static void theStrongestSystems() {
        powers(many(1, 10000000, Due.BK7), 10107972136L, 10000000000L, 9952012383L);
        powers(many(1, -10000000, Due.BK7), -10107972137L, -10000000000L, -9952012384L);
        powers(many(8, 10000000, "W 139999 130001 130000"), 106660444648L, 80000000000L, 79997333416L);
        powers(many(8, -10000000, "W 139999 130001 130000"), -106660444656L, -80000000000L, -79997333424L);
    }

    private static void balanceOfNoError() {
        DUE.due("P23 of no lens", Due.deskWith(Due.BK7).balancePower(0), 0);
        DUE.due("P23 of lenses without power", many(8, 0, Due.BK7, Due.F2).balancePower(1), 0);
        CountedDesk opposite = many(1, 1000000, Due.BK7, Due.F2);
        opposite.addLens(0, -1000000);
        DUE.due("P23 of opposite lenses", opposite.balancePower(0), 0);
        DUE.due("P23 of opposite lenses, F2", opposite.balancePower(1), 0);
        CountedDesk balanced = many(1, 5000000, Due.BK7, Due.F2);
        DUE.due("P23 of a lens, F2", balanced.balancePower(1), -2840814);
        DUE.due("P19 that lens", balanced.addLens(1, -2840814), 1);
        powers(balanced, 2158008851L, 2159186000L, 2158008870L);
        DUE.due("P23 of both, F2", balanced.balancePower(1), 0);
        DUE.due("P23 of both, BK7", balanced.balancePower(0), 1);
    }

    private static void balanceIsRoundedDown() {
        DUE.due("P23 -0.96", many(1, 1, Due.BK7).balancePower(0), -1);
        DUE.due("P23 0.96", many(1, -1, Due.BK7).balancePower(0), 0);
        DUE.due("P23 -7.7", many(8, 1, Due.BK7).balancePower(0), -8);
        DUE.due("P23 7.7", many(8, -1, Due.BK7).balancePower(0), 7);
        // e is 500 and A / B is 100, so that the power is whole.
        DUE.due("P23 a whole number", many(1, 50000, EVEN).balancePower(0), -50000);
        DUE.due("P23 a whole number above 0", many(1, -50000, EVEN).balancePower(0), 50000);
    }

    private static void balanceOfTheStrongest() {
        String wide = "W 139999 130001 130000";
        String top = "T 230000 229999 229998";
        DUE.due("P23 strong", many(8, 10000000, wide, top).balancePower(1), -1733088898525L);
        DUE.due("P23 weak", many(8, -10000000, wide, top).balancePower(1), 1733088898524L);
        int[] wrong = {MIN, -1, 2, MAX};
        for (int glass : wrong) {
            DUE.due("P23 balancePower(" + glass + ")",
                many(1, 1, wide, top).balancePower(glass), AchromatDesk.NO_SUCH_GLASS);
        }
    }

    private static CountedDesk doublet() {
        CountedDesk desk = Due.deskWith(Due.BK7, Due.F2, Due.SF10);
        desk.addLens(0, 5000000);
        desk.addLens(1, -2000000);
        return desk;
    }

    private static void theLastAndTheFirstMeasures() {
        CountedDesk desk = doublet();
        long[][] allowed = {
            {LIMIT, 0, 0, 102}, {-LIMIT, 0, 0, 102}, {0, LIMIT, 0, 102}, {0, -LIMIT, 0, 102},
            {0, 0, LIMIT, 102}, {0, 0, -LIMIT, 102}, {LIMIT, LIMIT, LIMIT, 2},
            {-LIMIT, -LIMIT, -LIMIT, 102}, {LIMIT, -LIMIT, LIMIT, 2}, {-LIMIT, LIMIT, -LIMIT, 102}};
        for (long[] row : allowed) {
            DUE.due("P24 (" + row[0] + ", " + row[1] + ", " + row[2] + ")",
                desk.findWrongGlass(row[0], row[1], row[2]), row[3]);
        }
        long[] beyond = {Long.MIN_VALUE, -LIMIT - 1, LIMIT + 1, Long.MAX_VALUE};
        for (long far : beyond) {
            DUE.due("P24 F is " + far, desk.findWrongGlass(far, LIMIT, LIMIT), AchromatDesk.OUT_OF_RANGE);
            DUE.due("P24 d is " + far, desk.findWrongGlass(-LIMIT, far, LIMIT), AchromatDesk.OUT_OF_RANGE);
            DUE.due("P24 C is " + far, desk.findWrongGlass(-LIMIT, -LIMIT, far), AchromatDesk.OUT_OF_RANGE);
            DUE.due("P24 all are " + far, desk.findWrongGlass(far, far, far), AchromatDesk.OUT_OF_RANGE);
        }
    }

    private static void noLensesOrFewerThanTwoGlasses() {
        long nothing = AchromatDesk.NOTHING;
        DUE.due("P24 no lens, no glass", new CountedDesk().findWrongGlass(LIMIT, -LIMIT, 0), nothing);
        DUE.due("P24 no lens, one glass", many(0, 0, Due.BK7).findWrongGlass(0, 0, 0), nothing);
        DUE.due("P24 no lens, two glasses", many(0, 0, Due.BK7, Due.F2).findWrongGlass(0, 0, 0), nothing);
        DUE.due("P24 one lens, one glass", many(1, 5, Due.BK7).findWrongGlass(0, 0, 0), nothing);
        DUE.due("P24 eight lenses, one glass", many(8, 5, Due.BK7).findWrongGlass(0, 0, 0), nothing);
        DUE.due("P24 one lens, two glasses", many(1, 5, Due.BK7, Due.F2).findWrongGlass(0, 0, 0), 1);
        CountedDesk desk = many(1, 5, Due.BK7, Due.F2);
        DUE.due("P6 removeGlass(1)", desk.removeGlass(1), 1);
        DUE.due("P24 the other glass has gone", desk.findWrongGlass(0, 0, 0), nothing);
        DUE.due("P5 another glass", Due.add(desk, Due.SF10), 1);
        DUE.due("P24 another glass has come", desk.findWrongGlass(0, 0, 0), 1);
        DUE.due("P20 removeLens(0)", desk.removeLens(0), 0);
        DUE.due("P24 the lens has gone", desk.findWrongGlass(0, 0, 0), nothing);
    }

    private static void theLowestLensFirst() {
        DUE.due("P24 eight equal lenses", many(8, 50000, EVEN, ABOVE).findWrongGlass(0, 0, 0), 1);
        // Each lens could be of the other's glass: lens 0 of glass 1, or lens 1 of glass 0.
        CountedDesk twins = Due.deskWith(EVEN, "TWIN 150300 150000 149800", Due.F2);
        twins.addLens(0, 50000);
        twins.addLens(1, 50000);
        DUE.due("P24 lens 0 before glass 0", twins.findWrongGlass(100600000, 100000000, 99600000), 1);
        CountedDesk zero = Due.deskWith(Due.BK7, Due.F2);
        zero.addLens(1, 0);
        zero.addLens(0, 0);
        DUE.due("P24 lenses without power", zero.findWrongGlass(LIMIT, LIMIT, LIMIT), 0);
    }

    private static void theLowestGlassNext() {
        CountedDesk desk = Due.deskWith(Due.F2, EVEN, ABOVE, "TWIN 150310 150010 149810");
        desk.addLens(1, 50000);
        DUE.due("P24 equal glasses", desk.findWrongGlass(50310000, 50010000, 49810000), 2);
        CountedDesk zero = Due.deskWith(Due.BK7, Due.F2, Due.SF10);
        zero.addLens(0, 0);
        DUE.due("P24 a lens without power", zero.findWrongGlass(-LIMIT, 0, 0), 1);
    }

    private static void aboveAndBelowAreEquallyFar() {
        CountedDesk up = many(1, 50000, EVEN, ABOVE, BELOW);
        DUE.due("P24 above has the lower number", up.findWrongGlass(50300000, 50000000, 49800000), 1);
        DUE.due("P24 one nearer to below", up.findWrongGlass(50300000, 49999999, 49800000), 2);
        CountedDesk down = many(1, 50000, EVEN, BELOW, ABOVE);
        DUE.due("P24 below has the lower number", down.findWrongGlass(50300000, 50000000, 49800000), 1);
        DUE.due("P24 one nearer to above", down.findWrongGlass(50300000, 50000000, 49800001), 2);
    }

    private static void theOwnGlassIsNoWrongOne() {
        CountedDesk desk = Due.deskWith(EVEN, Due.SF10);
        desk.addLens(0, 50000);
        desk.addLens(1, 100);
        DUE.due("P24 the system's own powers",
            desk.findWrongGlass(desk.systemPower(0), desk.systemPower(1), desk.systemPower(2)), 100);
    }
}
