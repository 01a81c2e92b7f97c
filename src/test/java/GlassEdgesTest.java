/** The boundary cases of promises 5 to 12 that the glasses and their numbers make. */
final class GlassEdgesTest {
    private static final int MIN = Integer.MIN_VALUE;
    private static final int MAX = Integer.MAX_VALUE;
    private static final Due DUE = new Due();

    public static void main(String[] args) {
        indicesAboutTheLeast();
        indicesAboutTheGreatest();
        indicesAboutTheWidest();
        theWidestAtBothEnds();
        numbersInTheOrderOfAdding();
        namesThatDifferInOneSign();
        aNameIsFreeAgain();
        removeTheFirstAMiddleAndTheLast();
        removeBelowTheLenses();
        inUseByEachLens();
        colours();
        namesByTheirCodes();
        aNameThatBeginsAnother();
        roundedDown();
        theLeastAndGreatestNumbers();
        atLeastTheGivenAbbe();
        severalOfTheLeastAbbe();
        DUE.end();
    }

    /** Whether the document's section on glasses allows the indices is asked here in its own words. */
    private static void indices(int indexF, int indexD, int indexC) {
        boolean isRising = indexC < indexD && indexD < indexF;
        boolean isInside = 130000 <= indexC && indexF <= 230000;
        boolean isAllowed = isRising && isInside && indexF - indexC <= 9999;
        String text = Due.glass("A", indexF, indexD, indexC);
        CountedDesk desk = new CountedDesk();
        Due.type(desk, text);
        DUE.due("P5 addGlass() of " + text, desk.addGlass(), isAllowed ? 0 : AchromatDesk.OUT_OF_RANGE);
        DUE.due("P7 glassCount() behind " + text, desk.glassCount(), isAllowed ? 1 : 0);
        DUE.due("P8 nF of " + text, desk.index(0, 0), isAllowed ? indexF : AchromatDesk.NO_SUCH_GLASS);
        DUE.due("P8 nd of " + text, desk.index(0, 1), isAllowed ? indexD : AchromatDesk.NO_SUCH_GLASS);
        DUE.due("P8 nC of " + text, desk.index(0, 2), isAllowed ? indexC : AchromatDesk.NO_SUCH_GLASS);
        DUE.due("P5 the buffer behind " + text, desk.clearBuffer(), isAllowed ? 0 : text.length());
    }

    private static void cube(int low, int high) {
        for (int indexF = low; indexF <= high; indexF++) {
            for (int indexD = low; indexD <= high; indexD++) {
                for (int indexC = low; indexC <= high; indexC++) {
                    indices(indexF, indexD, indexC);
                }
            }
        }
    }

    private static void indicesAboutTheLeast() {
        cube(129998, 130003);
        indices(130002, 130001, 130000);
        indices(130001, 130000, 129999);
        indices(100002, 100001, 100000);
    }

    private static void indicesAboutTheGreatest() {
        cube(229997, 230002);
        indices(230000, 229999, 229998);
        indices(230001, 229999, 229998);
        indices(999999, 999998, 999997);
    }

    private static void indicesAboutTheWidest() {
        int[] middles = {149999, 150000, 150001, 150002, 155000, 159997, 159998, 159999, 160000, 160001};
        for (int indexF = 159997; indexF <= 160001; indexF++) {
            for (int indexD : middles) {
                for (int indexC = 149999; indexC <= 150001; indexC++) {
                    indices(indexF, indexD, indexC);
                }
            }
        }
    }

    private static void theWidestAtBothEnds() {
        int[] lowMiddles = {129999, 130000, 130001, 139998, 139999};
        for (int middle : lowMiddles) {
            indices(139999, middle, 130000);
            indices(139999, middle, 129999);
            indices(140000, middle, 130000);
        }
        int[] highMiddles = {220001, 220002, 229999, 230000, 230001};
        for (int middle : highMiddles) {
            indices(230000, middle, 220001);
            indices(230000, middle, 220000);
            indices(230001, middle, 220002);
        }
    }

    private static void numbersInTheOrderOfAdding() {
        CountedDesk desk = new CountedDesk();
        for (int glass = 0; glass < 20; glass++) {
            Due.type(desk, Due.glass("" + (char) ('Z' - glass), 150002 + glass, 150001 + glass, 150000 + glass));
            DUE.due("P5 the number of the glass", desk.addGlass(), glass);
        }
        for (int glass = 0; glass < 20; glass++) {
            DUE.due("P8 index(" + glass + ", 0)", desk.index(glass, 0), 150002 + glass);
            DUE.due("P9 placeByName(" + glass + ")", desk.placeByName(glass), 19 - glass);
        }
        DUE.due("P7 glassCount()", desk.glassCount(), 20);
    }

    private static void namesThatDifferInOneSign() {
        CountedDesk desk = Due.deskWith("AAAAAA 152238 151680 151432");
        String[] names = {"BAAAAA", "ABAAAA", "AABAAA", "AAABAA", "AAAABA", "AAAAAB", "AAAAA", "A"};
        for (int at = 0; at < names.length; at++) {
            Due.type(desk, names[at] + " 152238 151680 151432");
            DUE.due("P5 the name " + names[at], desk.addGlass(), at + 1);
        }
        Due.type(desk, "AAAAAA 163208 162004 161506");
        DUE.due("P5 the first name", desk.addGlass(), AchromatDesk.DUPLICATE);
        desk.clearBuffer();
        Due.type(desk, "A 163208 162004 161506");
        DUE.due("P5 the last name", desk.addGlass(), AchromatDesk.DUPLICATE);
        DUE.due("P8 index(0, 0) behind it", desk.index(0, 0), 152238);
        DUE.due("P8 index(8, 0) behind it", desk.index(8, 0), 152238);
    }

    private static void aNameIsFreeAgain() {
        CountedDesk desk = Due.deskWith(Due.BK7, Due.F2, Due.SF10);
        DUE.due("P5 F2 again", Due.add(desk, Due.F2), AchromatDesk.DUPLICATE);
        DUE.due("P6 removeGlass(1)", desk.removeGlass(1), 2);
        DUE.due("P5 addGlass() of F2, free now", desk.addGlass(), 2);
        DUE.due("P8 index(2, 0)", desk.index(2, 0), 163208);
        DUE.due("P5 SF10 again", Due.add(desk, Due.SF10), AchromatDesk.DUPLICATE);
        DUE.due("P5 BK7 again", Due.add(desk, Due.BK7), AchromatDesk.DUPLICATE);
        DUE.due("P5 F2 again", Due.add(desk, Due.F2), AchromatDesk.DUPLICATE);
    }

    private static void removed(int glass, int... left) {
        CountedDesk desk = Due.deskWith(Due.BK7, Due.F2, Due.SF10, Due.LAK9);
        int[] indices = {152238, 163208, 174648, 169796};
        DUE.due("P6 removeGlass(" + glass + ")", desk.removeGlass(glass), 3);
        DUE.due("P7 glassCount()", desk.glassCount(), 3);
        for (int at = 0; at < left.length; at++) {
            DUE.due("P6 index(" + at + ", 0) without " + glass, desk.index(at, 0), indices[left[at]]);
        }
        DUE.due("P6 index(3, 0) without " + glass, desk.index(3, 0), AchromatDesk.NO_SUCH_GLASS);
    }

    private static void removeTheFirstAMiddleAndTheLast() {
        removed(0, 1, 2, 3);
        removed(1, 0, 2, 3);
        removed(2, 0, 1, 3);
        removed(3, 0, 1, 2);
    }

    /** Lenses of a lower and of a higher glass: only the number of the higher one decreases. */
    private static void removeBelowTheLenses() {
        CountedDesk desk = Due.deskWith(Due.BK7, Due.F2, Due.SF10);
        desk.addLens(0, 1000000);
        desk.addLens(2, 2000000);
        long forF = desk.systemPower(0);
        long forC = desk.systemPower(2);
        DUE.due("P6 removeGlass(1)", desk.removeGlass(1), 2);
        DUE.due("P6 systemPower(0) is as it was", desk.systemPower(0), forF);
        DUE.due("P6 systemPower(2) is as it was", desk.systemPower(2), forC);
        DUE.due("P6 removeGlass(0), still in use", desk.removeGlass(0), AchromatDesk.IN_USE);
        DUE.due("P6 removeGlass(1), now in use", desk.removeGlass(1), AchromatDesk.IN_USE);
        DUE.due("P6 removeGlass(2), none now", desk.removeGlass(2), AchromatDesk.NO_SUCH_GLASS);
        DUE.due("P20 removeLens(0)", desk.removeLens(0), 1);
        DUE.due("P6 removeGlass(0), free now", desk.removeGlass(0), 1);
        DUE.due("P6 removeGlass(0), of the last lens", desk.removeGlass(0), AchromatDesk.IN_USE);
        DUE.due("P22 systemPower(1)", desk.systemPower(1), 2000000000L);
    }

    private static void inUseByEachLens() {
        for (int user = 0; user < 8; user++) {
            CountedDesk desk = Due.deskWith(Due.BK7, Due.F2);
            for (int lens = 0; lens < 8; lens++) {
                desk.addLens(lens == user ? 1 : 0, 0);
            }
            DUE.due("P6 in use by lens " + user, desk.removeGlass(1), AchromatDesk.IN_USE);
            DUE.due("P20 removeLens(" + user + ")", desk.removeLens(user), 7);
            DUE.due("P6 free again", desk.removeGlass(1), 1);
        }
    }

    private static void colours() {
        CountedDesk desk = Due.deskWith(Due.F2, Due.BK7);
        long[] indices = {152238, 151680, 151432};
        for (int colour = -3; colour <= 5; colour++) {
            boolean isColour = colour >= 0 && colour <= 2;
            DUE.due("P8 index(1, " + colour + ")",
                desk.index(1, colour), isColour ? indices[colour] : AchromatDesk.OUT_OF_RANGE);
        }
        DUE.due("P8 index(1, min)", desk.index(1, MIN), AchromatDesk.OUT_OF_RANGE);
        DUE.due("P8 index(1, max)", desk.index(1, MAX), AchromatDesk.OUT_OF_RANGE);
    }

    /** The names in the order of their codes: the digits come before the letters. */
    private static void inOrder(String... names) {
        CountedDesk desk = new CountedDesk();
        for (int at = names.length - 1; at >= 0; at--) {
            Due.type(desk, names[at] + " 152238 151680 151432");
            DUE.due("P5 the name " + names[at], desk.addGlass(), names.length - 1 - at);
        }
        for (int at = 0; at < names.length; at++) {
            DUE.due("P9 the place of " + names[at], desk.placeByName(names.length - 1 - at), at);
        }
    }

    private static void namesByTheirCodes() {
        inOrder("A0", "A9", "AA", "AZ", "B0", "Z");
        inOrder("AAAAA0", "AAAAA9", "AAAAAA", "AAAAAZ", "AAAAB", "AAAB");
        inOrder("Z00000", "Z00001", "ZZZZZY", "ZZZZZZ");
        inOrder("A");
    }

    private static void aNameThatBeginsAnother() {
        inOrder("A", "AA", "AAA", "AAAA", "AAAAA", "AAAAAA");
        inOrder("Z", "Z0", "Z00", "Z000", "Z0000", "Z00000");
        inOrder("B", "B0", "BA", "BA0", "C");
    }

    private static void roundedDown() {
        // 1000 * A / B is 5555888.9 and 100000 * D / B is 66666.7.
        CountedDesk desk = Due.deskWith("A 150009 150003 150000", "B 150250 150000 149750");
        DUE.due("P10 abbe(0)", desk.abbe(0), 5555888);
        DUE.due("P11 partial(0)", desk.partial(0), 66666);
        DUE.due("P10 a whole number", desk.abbe(1), 100000);
        DUE.due("P11 a whole number", desk.partial(1), 50000);
    }

    private static void theLeastAndGreatestNumbers() {
        CountedDesk desk = Due.deskWith("L 130002 130001 130000", "W 139999 130001 130000",
            "V 139999 139998 130000", "T 230000 229999 229998", "S 230000 229999 220001",
            "R 230000 220002 220001");
        long[] abbe = {15000500, 3000, 4000, 64999500, 13001, 12001};
        long[] partial = {50000, 99989, 10, 50000, 10, 99989};
        for (int glass = 0; glass < abbe.length; glass++) {
            DUE.due("P10 abbe(" + glass + ")", desk.abbe(glass), abbe[glass]);
            DUE.due("P11 partial(" + glass + ")", desk.partial(glass), partial[glass]);
        }
    }

    /** The values of abbe are 64119, 36430, 28413 and 84472. */
    private static void atLeastTheGivenAbbe() {
        CountedDesk desk = Due.deskWith(Due.BK7, Due.F2, Due.SF10, Due.FK51);
        int[] values = {MIN, -1, 0, 28412, 28413, 28414, 36430, 36431, 64119, 64120, 84472};
        long[] found = {2, 2, 2, 2, 2, 1, 1, 0, 0, 3, 3};
        for (int at = 0; at < values.length; at++) {
            DUE.due("P12 glassWithAbbe(" + values[at] + ")", desk.glassWithAbbe(values[at]), found[at]);
        }
        DUE.due("P12 glassWithAbbe(84473)", desk.glassWithAbbe(84473), AchromatDesk.NOTHING);
        DUE.due("P12 glassWithAbbe(max)", desk.glassWithAbbe(MAX), AchromatDesk.NOTHING);
    }

    private static void severalOfTheLeastAbbe() {
        CountedDesk desk = Due.deskWith(Due.BK7, "U 163208 162004 161506", "V 163208 162004 161506",
            "W 163208 162004 161506");
        DUE.due("P12 three of the least", desk.glassWithAbbe(36430), 1);
        DUE.due("P6 removeGlass(1)", desk.removeGlass(1), 3);
        DUE.due("P12 two of the least", desk.glassWithAbbe(0), 1);
        DUE.due("P6 removeGlass(0)", desk.removeGlass(0), 2);
        DUE.due("P12 both of the least", desk.glassWithAbbe(MIN), 0);
    }
}
