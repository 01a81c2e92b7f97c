/** Promises 19 to 24: the lens system. */
final class SystemTest {
    private static final String WIDE = "WIDE 139999 130001 130000";
    private static final String TOP = "TOP 230000 229999 229998";
    private static final Due DUE = new Due();

    public static void main(String[] args) {
        addLens();
        removeLens();
        systemPower();
        balancePower();
        findWrongGlass();
        findWrongGlassAmongEquals();
        findWrongGlassErrors();
        DUE.end();
    }

    private static void addLens() {
        AchromatDesk desk = Due.deskWith(Due.BK7, Due.F2);
        DUE.due("P19 addLens(2, 1)", desk.addLens(2, 1), AchromatDesk.NO_SUCH_GLASS);
        DUE.due("P19 addLens(-1, 1)", desk.addLens(-1, 1), AchromatDesk.NO_SUCH_GLASS);
        DUE.due("P19 addLens(2, 10000001)", desk.addLens(2, 10000001), AchromatDesk.NO_SUCH_GLASS);
        DUE.due("P19 addLens(0, 10000001)", desk.addLens(0, 10000001), AchromatDesk.OUT_OF_RANGE);
        DUE.due("P19 addLens(0, -10000001)", desk.addLens(0, -10000001), AchromatDesk.OUT_OF_RANGE);
        DUE.due("P21 lensCount() behind errors", desk.lensCount(), 0);
        DUE.due("P19 addLens(0, 10000000)", desk.addLens(0, 10000000), 0);
        DUE.due("P19 addLens(0, -10000000)", desk.addLens(0, -10000000), 1);
        for (int lens = 2; lens < 8; lens++) {
            DUE.due("P19 addLens(1, 0) as " + lens, desk.addLens(1, 0), lens);
            DUE.due("P21 lensCount()", desk.lensCount(), lens + 1);
        }
        DUE.due("P19 a ninth", desk.addLens(1, 0), AchromatDesk.FULL);
        DUE.due("P19 a ninth out of range", desk.addLens(1, 10000001), AchromatDesk.OUT_OF_RANGE);
        DUE.due("P19 a ninth of no glass", desk.addLens(2, 0), AchromatDesk.NO_SUCH_GLASS);
        DUE.due("P21 lensCount() when full", desk.lensCount(), 8);
    }

    private static void removeLens() {
        AchromatDesk desk = Due.deskWith(Due.BK7, Due.F2);
        desk.addLens(0, 1);
        desk.addLens(1, 20);
        desk.addLens(0, 300);
        DUE.due("P20 removeLens(3)", desk.removeLens(3), AchromatDesk.NO_SUCH_LENS);
        DUE.due("P20 removeLens(-1)", desk.removeLens(-1), AchromatDesk.NO_SUCH_LENS);
        DUE.due("P20 systemPower(1) of three", desk.systemPower(1), 321000);
        DUE.due("P20 removeLens(0)", desk.removeLens(0), 2);
        DUE.due("P20 systemPower(1) of two", desk.systemPower(1), 320000);
        DUE.due("P20 removeLens(0), now the second", desk.removeLens(0), 1);
        DUE.due("P20 systemPower(1) of one", desk.systemPower(1), 300000);
        DUE.due("P20 removeGlass(1), free now", desk.removeGlass(1), 1);
        DUE.due("P20 removeLens(1)", desk.removeLens(1), AchromatDesk.NO_SUCH_LENS);
        DUE.due("P20 removeLens(0), the last", desk.removeLens(0), 0);
        DUE.due("P21 lensCount()", desk.lensCount(), 0);
        DUE.due("P20 removeLens(0) of none", desk.removeLens(0), AchromatDesk.NO_SUCH_LENS);
        DUE.due("P19 addLens(0, 5) again", desk.addLens(0, 5), 0);
    }

    private static void powers(String what, AchromatDesk desk, long forF, long forD, long forC) {
        DUE.due("P22 F of " + what, desk.systemPower(0), forF);
        DUE.due("P22 d of " + what, desk.systemPower(1), forD);
        DUE.due("P22 C of " + what, desk.systemPower(2), forC);
        DUE.due("P22 colour 3", desk.systemPower(3), AchromatDesk.OUT_OF_RANGE);
        DUE.due("P22 colour -1", desk.systemPower(-1), AchromatDesk.OUT_OF_RANGE);
    }

    private static AchromatDesk eightOf(int power) {
        AchromatDesk desk = Due.deskWith(WIDE, TOP);
        for (int lens = 0; lens < 8; lens++) {
            desk.addLens(0, power);
        }
        return desk;
    }

    private static AchromatDesk doublet() {
        AchromatDesk desk = Due.deskWith(Due.BK7, Due.F2, Due.SF10);
        desk.addLens(0, 5000000);
        desk.addLens(1, -2000000);
        return desk;
    }

    private static void systemPower() {
        powers("no lenses", new AchromatDesk(), 0, 0, 0);
        powers("a doublet", doublet(), 3015149863L, 3000000000L, 2992069670L);
        AchromatDesk small = Due.deskWith(Due.BK7);
        small.addLens(0, -1);
        powers("a lens of -1", small, -1011, -1000, -996);
        powers("eight strong lenses", eightOf(10000000), 106660444648L, 80000000000L, 79997333416L);
        powers("eight weak lenses", eightOf(-10000000), -106660444656L, -80000000000L, -79997333424L);
    }

    private static void balancePower() {
        AchromatDesk desk = doublet();
        DUE.due("P23 balancePower(0)", desk.balancePower(0), -1479882);
        DUE.due("P23 balancePower(1)", desk.balancePower(1), -840814);
        DUE.due("P23 balancePower(2)", desk.balancePower(2), -655800);
        DUE.due("P23 balancePower(3)", desk.balancePower(3), AchromatDesk.NO_SUCH_GLASS);
        DUE.due("P23 balancePower(-1)", desk.balancePower(-1), AchromatDesk.NO_SUCH_GLASS);
        DUE.due("P23 without lenses", Due.deskWith(Due.BK7).balancePower(0), 0);
        DUE.due("P23 strong, WIDE", eightOf(10000000).balancePower(0), -80000001);
        DUE.due("P23 strong, TOP", eightOf(10000000).balancePower(1), -1733088898525L);
        DUE.due("P23 weak, WIDE", eightOf(-10000000).balancePower(0), 80000000);
        DUE.due("P23 weak, TOP", eightOf(-10000000).balancePower(1), 1733088898524L);
    }

    private static void findWrongGlass() {
        AchromatDesk desk = doublet();
        DUE.due("P24 the second of SF10",
            desk.findWrongGlass(2646141412L, 2650958002L, 2650833621L), 102);
        DUE.due("P24 the first of F2",
            desk.findWrongGlass(4076488872L, 3998839009L, 3966721373L), 1);
        long limit = 1000000000000L;
        DUE.due("P24 the greatest measured", desk.findWrongGlass(limit, limit, limit), 2);
        DUE.due("P24 the least measured", desk.findWrongGlass(-limit, -limit, -limit), 102);
        AchromatDesk one = Due.deskWith(Due.BK7, Due.F2);
        one.addLens(1, 77);
        DUE.due("P24 a single other glass", one.findWrongGlass(0, 0, 0), 0);
    }

    private static void findWrongGlassAmongEquals() {
        AchromatDesk desk = Due.deskWith(Due.BK7, Due.F2, "TWIN 163208 162004 161506");
        desk.addLens(0, 5000000);
        desk.addLens(0, 5000000);
        long limit = 1000000000000L;
        DUE.due("P24 equal lenses and glasses", desk.findWrongGlass(limit, limit, limit), 1);
        AchromatDesk twin = Due.deskWith(Due.BK7, Due.F2, "TWIN 163208 162004 161506");
        twin.addLens(1, 1000);
        DUE.due("P24 the twin counts as another glass",
            twin.findWrongGlass(twin.systemPower(0), twin.systemPower(1), twin.systemPower(2)), 2);
        AchromatDesk zero = Due.deskWith(Due.BK7, Due.F2, Due.SF10);
        zero.addLens(1, 0);
        zero.addLens(0, 0);
        DUE.due("P24 lenses without power", zero.findWrongGlass(5, 5, 5), 0);
    }

    private static void findWrongGlassErrors() {
        AchromatDesk desk = doublet();
        long over = 1000000000001L;
        DUE.due("P24 F over", desk.findWrongGlass(over, 0, 0), AchromatDesk.OUT_OF_RANGE);
        DUE.due("P24 d over", desk.findWrongGlass(0, over, 0), AchromatDesk.OUT_OF_RANGE);
        DUE.due("P24 C over", desk.findWrongGlass(0, 0, over), AchromatDesk.OUT_OF_RANGE);
        DUE.due("P24 F under", desk.findWrongGlass(-over, 0, 0), AchromatDesk.OUT_OF_RANGE);
        DUE.due("P24 d under", desk.findWrongGlass(0, -over, 0), AchromatDesk.OUT_OF_RANGE);
        DUE.due("P24 C under", desk.findWrongGlass(0, 0, -over), AchromatDesk.OUT_OF_RANGE);
        DUE.due("P24 far out", desk.findWrongGlass(Long.MIN_VALUE, Long.MAX_VALUE, 0), AchromatDesk.OUT_OF_RANGE);
        AchromatDesk empty = Due.deskWith(Due.BK7, Due.F2);
        DUE.due("P24 no lenses", empty.findWrongGlass(0, 0, 0), AchromatDesk.NOTHING);
        DUE.due("P24 no lenses, over", empty.findWrongGlass(over, 0, 0), AchromatDesk.OUT_OF_RANGE);
        AchromatDesk single = Due.deskWith(Due.BK7);
        single.addLens(0, 1000);
        DUE.due("P24 one glass", single.findWrongGlass(0, 0, 0), AchromatDesk.NOTHING);
        DUE.due("P24 one glass, under", single.findWrongGlass(0, 0, -over), AchromatDesk.OUT_OF_RANGE);
    }
}
