/** Promises 19 to 24: the lens system. */
final class SystemTest {
    private static final String WIDE = "WIDE 139999 130001 130000";
    private static final String TOP = "TOP 230000 229999 229998";
    private static final Due DUE = new Due();

    public static void main(String[] args) {
        addLens();
        removeLens();
        removeFromAFullSystem();
        systemPower();
        balancePower();
        findWrongGlass();
        findWrongGlassByEachColour();
        findWrongGlassAmongEquals();
        findWrongGlassErrors();
        DUE.end();
    }

    private static void addLens() {
        CountedDesk desk = Due.deskWith(Due.BK7, Due.F2);
        DUE.due("P19 addLens(2, 1)", desk.addLens(2, 1), AchromatDesk.NO_SUCH_GLASS);
        DUE.due("P19 addLens(-1, 1)", desk.addLens(-1, 1), AchromatDesk.NO_SUCH_GLASS);
        DUE.due("P19 addLens(2, 10000001)", desk.addLens(2, 10000001), AchromatDesk.NO_SUCH_GLASS);
        DUE.due("P19 addLens(0, 10000001)", desk.addLens(0, 10000001), AchromatDesk.OUT_OF_RANGE);
        DUE.due("P19 addLens(0, -10000001)", desk.addLens(0, -10000001), AchromatDesk.OUT_OF_RANGE);
        DUE.due("P21 lensCount() behind errors", desk.lensCount(), 0);
        DUE.due("P19 addLens(0, 10000000)", desk.addLens(0, 10000000), 0);
        DUE.due("P19 addLens(0, -10000000)", desk.addLens(0, -10000000), 1);
        for (int lens = 2; lens < 8; lens++) {
            DUE.due("P19 addLens(1, 0) as " + lens, desk.addLens(1, 0), lens);
            DUE.due("P21 lensCount()", desk.lensCount(), lens + 1);
        }
        DUE.due("P19 a ninth", desk.addLens(1, 0), AchromatDesk.FULL);
        DUE.due("P19 a ninth out of range", desk.addLens(1, 10000001), AchromatDesk.OUT_OF_RANGE);
        DUE.due("P19 a ninth of no glass", desk.addLens(2, 0), AchromatDesk.NO_SUCH_GLASS);
        DUE.due("P21 lensCount() when full", desk.lensCount(), 8);
    }

    private static void removeLens() {
        CountedDesk desk = Due.deskWith(Due.BK7, Due.F2);
        desk.addLens(0, 1);
        desk.addLens(1, 20);
        desk.addLens(0, 300);
        DUE.due("P20 removeLens(3)", desk.removeLens(3), AchromatDesk.NO_SUCH_LENS);
        DUE.due("P20 removeLens(-1)", desk.removeLens(-1), AchromatDesk.NO_SUCH_LENS);
        DUE.due("P20 systemPower(1) of three", desk.systemPower(1), 321000);
        DUE.due("P20 removeLens(0)", desk.removeLens(0), 2);
        DUE.due("P20 systemPower(1) of two", desk.systemPower(1), 320000);
        DUE.due("P20 removeLens(0), now the second", desk.removeLens(0), 1);
        DUE.due("P20 systemPower(1) of one", desk.systemPower(1), 300000);
        DUE.due("P20 removeGlass(1), free now", desk.removeGlass(1), 1);
        DUE.due("P20 removeLens(1)", desk.removeLens(1), AchromatDesk.NO_SUCH_LENS);
        DUE.due("P20 removeLens(0), the last", desk.removeLens(0), 0);
        DUE.due("P21 lensCount()", desk.lensCount(), 0);
        DUE.due("P20 removeLens(0) of none", desk.removeLens(0), AchromatDesk.NO_SUCH_LENS);
        DUE.due("P19 addLens(0, 5) again", desk.addLens(0, 5), 0);
    }

    private static void removeFromAFullSystem() {
        CountedDesk desk = Due.deskWith(Due.F2, Due.BK7);
        for (int lens = 0; lens < 8; lens++) {
            desk.addLens(1, 1 << lens);
        }
        DUE.due("P6 removeGlass(0) below eight lenses", desk.removeGlass(0), 1);
        DUE.due("P22 systemPower(1) of eight", desk.systemPower(1), 255000);
        DUE.due("P20 removeLens(8)", desk.removeLens(8), AchromatDesk.NO_SUCH_LENS);
        DUE.due("P20 removeLens(0) of eight", desk.removeLens(0), 7);
        DUE.due("P20 removeLens(6), the last", desk.removeLens(6), 6);
        DUE.due("P22 systemPower(1) of six", desk.systemPower(1), 126000);
        DUE.due("P19 addLens(0, 1000)", desk.addLens(0, 1000), 6);
        DUE.due("P22 systemPower(1) of seven", desk.systemPower(1), 1126000);
    }

    private static void powers(String what, CountedDesk desk, long forF, long forD, long forC) {
        DUE.due("P22 F of " + what, desk.systemPower(0), forF);
        DUE.due("P22 d of " + what, desk.systemPower(1), forD);
        DUE.due("P22 C of " + what, desk.systemPower(2), forC);
        DUE.due("P22 colour 3", desk.systemPower(3), AchromatDesk.OUT_OF_RANGE);
        DUE.due("P22 colour -1", desk.systemPower(-1), AchromatDesk.OUT_OF_RANGE);
    }

    private static CountedDesk eightOf(int power) {
        CountedDesk desk = Due.deskWith(WIDE, TOP);
        for (int lens = 0; lens < 8; lens++) {
            desk.addLens(0, power);
        }
        return desk;
    }

    private static CountedDesk doublet() {
        CountedDesk desk = Due.deskWith(Due.BK7, Due.F2, Due.SF10);
        desk.addLens(0, 5000000);
        desk.addLens(1, -2000000);
        return desk;
    }

    private static void systemPower() {
        powers("no lenses", new CountedDesk(), 0, 0, 0);
        powers("a doublet", doublet(), 3015149863L, 3000000000L, 2992069670L);
        CountedDesk small = Due.deskWith(Due.BK7);
        small.addLens(0, -1);
        powers("a lens of -1", small, -1011, -1000, -996);
        powers("eight strong lenses", eightOf(10000000), 106660444648L, 80000000000L, 79997333416L);
        powers("eight weak lenses", eightOf(-10000000), -106660444656L, -80000000000L, -79997333424L);
    }

    private static void balancePower() {
        CountedDesk desk = doublet();
        DUE.due("P23 balancePower(0)", desk.balancePower(0), -1479882);
        DUE.due("P23 balancePower(1)", desk.balancePower(1), -840814);
        DUE.due("P23 balancePower(2)", desk.balancePower(2), -655800);
        DUE.due("P23 balancePower(3)", desk.balancePower(3), AchromatDesk.NO_SUCH_GLASS);
        DUE.due("P23 balancePower(-1)", desk.balancePower(-1), AchromatDesk.NO_SUCH_GLASS);
        DUE.due("P23 without lenses", Due.deskWith(Due.BK7).balancePower(0), 0);
        DUE.due("P23 strong, WIDE", eightOf(10000000).balancePower(0), -80000001);
        DUE.due("P23 strong, TOP", eightOf(10000000).balancePower(1), -1733088898525L);
        DUE.due("P23 weak, WIDE", eightOf(-10000000).balancePower(0), 80000000);
        DUE.due("P23 weak, TOP", eightOf(-10000000).balancePower(1), 1733088898524L);
    }

    private static void findWrongGlass() {
        CountedDesk desk = doublet();
        DUE.due("P24 the second of SF10",
            desk.findWrongGlass(2646141412L, 2650958002L, 2650833621L), 102);
        DUE.due("P24 the first of F2",
            desk.findWrongGlass(4076488872L, 3998839009L, 3966721373L), 1);
        long limit = 1000000000000L;
        DUE.due("P24 the greatest measured", desk.findWrongGlass(limit, limit, limit), 2);
        DUE.due("P24 the least measured", desk.findWrongGlass(-limit, -limit, -limit), 102);
        CountedDesk one = Due.deskWith(Due.BK7, Due.F2);
        one.addLens(1, 77);
        DUE.due("P24 a single other glass", one.findWrongGlass(0, 0, 0), 0);
    }

    /** The exact powers of every single change, one colour far off, and powers near the system's. */
    private static void findWrongGlassByEachColour() {
        CountedDesk desk = Due.deskWith(Due.BK7, Due.F2, Due.SF10, Due.LAK9, Due.FK51);
        desk.addLens(0, 5000000);
        desk.addLens(1, -2000000);
        desk.addLens(3, 123457);
        long[][] rows = {
            {4201189375L, 4122296009L, 4089633447L, 1},
            {5308000520L, 5169219383L, 5113143509L, 2},
            {4838573276L, 4808828517L, 4794838556L, 3},
            {2831994328L, 2830887340L, 2829378029L, 4},
            {3493698505L, 3456467773L, 3439928522L, 100},
            {2770841915L, 2774415002L, 2773745695L, 102},
            {2927347947L, 2894568541L, 2879867881L, 103},
            {3596337045L, 3554009867L, 3535148185L, 104},
            {3108480496L, 3092333686L, 3083960269L, 200},
            {3128079965L, 3110778984L, 3101958906L, 201},
            {3148519155L, 3130112243L, 3120859798L, 202},
            {3102795399L, 3086930879L, 3078686100L, 204},
            {-860149634L, 3123457000L, 3114981744L, 201},
            {3139850366L, 3123457000L, 3114981744L, 202},
            {3139850366L, -876543000L, 3114981744L, 201},
            {3139850366L, 3123457000L, -885018256L, 201},
            {3108582288L, 3161973832L, 3093236565L, 200},
            {3086012359L, 3121048439L, 3162840162L, 201},
        };
        for (long[] row : rows) {
            DUE.due("P24 findWrongGlass(" + row[0] + ", " + row[1] + ", " + row[2] + ")",
                desk.findWrongGlass(row[0], row[1], row[2]), row[3]);
        }
    }

    private static void findWrongGlassAmongEquals() {
        CountedDesk desk = Due.deskWith(Due.BK7, Due.F2, "TWIN 163208 162004 161506");
        desk.addLens(0, 5000000);
        desk.addLens(0, 5000000);
        long limit = 1000000000000L;
        DUE.due("P24 equal lenses and glasses", desk.findWrongGlass(limit, limit, limit), 1);
        CountedDesk twin = Due.deskWith(Due.BK7, Due.F2, "TWIN 163208 162004 161506");
        twin.addLens(1, 1000);
        DUE.due("P24 the twin counts as another glass",
            twin.findWrongGlass(twin.systemPower(0), twin.systemPower(1), twin.systemPower(2)), 2);
        CountedDesk zero = Due.deskWith(Due.BK7, Due.F2, Due.SF10);
        zero.addLens(1, 0);
        zero.addLens(0, 0);
        DUE.due("P24 lenses without power", zero.findWrongGlass(5, 5, 5), 0);
    }

    private static void findWrongGlassErrors() {
        CountedDesk desk = doublet();
        long over = 1000000000001L;
        DUE.due("P24 F over", desk.findWrongGlass(over, 0, 0), AchromatDesk.OUT_OF_RANGE);
        DUE.due("P24 d over", desk.findWrongGlass(0, over, 0), AchromatDesk.OUT_OF_RANGE);
        DUE.due("P24 C over", desk.findWrongGlass(0, 0, over), AchromatDesk.OUT_OF_RANGE);
        DUE.due("P24 F under", desk.findWrongGlass(-over, 0, 0), AchromatDesk.OUT_OF_RANGE);
        DUE.due("P24 d under", desk.findWrongGlass(0, -over, 0), AchromatDesk.OUT_OF_RANGE);
        DUE.due("P24 C under", desk.findWrongGlass(0, 0, -over), AchromatDesk.OUT_OF_RANGE);
        DUE.due("P24 far out", desk.findWrongGlass(Long.MIN_VALUE, Long.MAX_VALUE, 0), AchromatDesk.OUT_OF_RANGE);
        CountedDesk empty = Due.deskWith(Due.BK7, Due.F2);
        DUE.due("P24 no lenses", empty.findWrongGlass(0, 0, 0), AchromatDesk.NOTHING);
        DUE.due("P24 no lenses, over", empty.findWrongGlass(over, 0, 0), AchromatDesk.OUT_OF_RANGE);
        CountedDesk single = Due.deskWith(Due.BK7);
        single.addLens(0, 1000);
        DUE.due("P24 one glass", single.findWrongGlass(0, 0, 0), AchromatDesk.NOTHING);
        DUE.due("P24 one glass, under", single.findWrongGlass(0, 0, -over), AchromatDesk.OUT_OF_RANGE);
    }
}
