/** Promises 1 to 12: a new object, the buffer and the glasses. */
final class CatalogueTest {
    private static final Due DUE = new Due();

    public static void main(String[] args) {
        aNewObject();
        append();
        clearBuffer();
        errorPositionInTheName();
        errorPositionInTheNumbers();
        addGlassRefusesTheText();
        addGlassRefusesTheIndices();
        addGlassErrorsInTheirOrder();
        addGlassChangesNothingOnError();
        removeGlass();
        index();
        placeByName();
        abbeAndPartial();
        glassWithAbbe();
        DUE.end();
    }

    private static void aNewObject() {
        CountedDesk desk = new CountedDesk();
        DUE.due("P1 glassCount()", desk.glassCount(), 0);
        DUE.due("P1 lensCount()", desk.lensCount(), 0);
        DUE.due("P1 plateCount()", desk.plateCount(), 0);
        DUE.due("P1 doubletCount()", desk.doubletCount(), 0);
        DUE.due("P1 errorPosition()", desk.errorPosition(), 0);
        DUE.due("P1 clearBuffer()", desk.clearBuffer(), 0);
        CountedDesk other = Due.deskWith(Due.BK7);
        other.addPlate(1000);
        DUE.due("P1 glassCount() beside another desk", desk.glassCount(), 0);
        DUE.due("P1 plateCount() beside another desk", new CountedDesk().plateCount(), 0);
    }

    private static void append() {
        CountedDesk desk = new CountedDesk();
        int[] wrong = {31, 127, 0, -1, 10, 200, 32 + 256, 65 + 65536, Integer.MIN_VALUE, Integer.MAX_VALUE};
        for (int ch : wrong) {
            DUE.due("P2 append(" + ch + ")", desk.append(ch), AchromatDesk.OUT_OF_RANGE);
        }
        DUE.due("P2 append(32)", desk.append(32), 1);
        DUE.due("P2 append(126)", desk.append(126), 2);
        for (int length = 3; length <= 28; length++) {
            DUE.due("P2 append(65) as sign " + length, desk.append(65), length);
        }
        DUE.due("P2 append(65) as sign 29", desk.append(65), AchromatDesk.FULL);
        DUE.due("P2 append(31) to a full buffer", desk.append(31), AchromatDesk.OUT_OF_RANGE);
        DUE.due("P2 clearBuffer() of a full buffer", desk.clearBuffer(), 28);
        DUE.due("P2 append(65) behind clearBuffer", desk.append(65), 1);
    }

    private static void clearBuffer() {
        CountedDesk desk = new CountedDesk();
        Due.type(desk, "BK7 1");
        DUE.due("P3 clearBuffer()", desk.clearBuffer(), 5);
        DUE.due("P3 clearBuffer() again", desk.clearBuffer(), 0);
        DUE.due("P3 addGlass() of F2", Due.add(desk, Due.F2), 0);
        DUE.due("P3 clearBuffer() behind addGlass", desk.clearBuffer(), 0);
    }

    private static void fault(String text, int position) {
        CountedDesk desk = new CountedDesk();
        Due.type(desk, text);
        DUE.due("P4 errorPosition() of '" + text + "'", desk.errorPosition(), position);
        DUE.due("P4 the length of '" + text + "' behind errorPosition", desk.clearBuffer(), text.length());
    }

    private static void errorPositionInTheName() {
        fault("", 0);
        fault(" ", 0);
        fault("7", 0);
        fault("b", 0);
        fault("@", 0);
        fault("[", 0);
        fault("A", 1);
        fault("Z", 1);
        fault("AZ09", 4);
        fault("A/", 1);
        fault("A:", 1);
        fault("A@", 1);
        fault("A[", 1);
        fault("Aa", 1);
        fault("ABCDEF", 6);
        fault("ABCDEFG", 6);
        fault("A12345", 6);
        fault("A123456", 6);
        fault("ABCDEF ", 7);
        fault("  BK7", 0);
        fault("BK7  1", 4);
    }

    private static void errorPositionInTheNumbers() {
        fault("A 0", 2);
        fault("A 9", 3);
        fault("A 1A", 3);
        fault("A 1 ", 3);
        fault("A 100000", 8);
        fault("A 12345 ", 7);
        fault("A 1234567", 8);
        fault("A 999999 ", 9);
        fault("A 999999 0", 9);
        fault("A 999999 1", 10);
        fault("A 999999 1x", 10);
        fault("A 999999 100000", 15);
        fault("A 999999 1000000", 15);
        fault("A 999999 100000 ", 16);
        fault("A 999999 100000  ", 16);
        fault("A 999999 100000 0", 16);
        fault("A 999999 100000 500000", 22);
        fault("A 999999 100000 500000 ", 22);
        fault("A 999999 100000 5000001", 22);
        fault("ABCDEF 999999 100000 500000", 27);
        fault("ABCDEF 999999 100000 500000 ", 27);
    }

    private static void refused(String text, long error) {
        CountedDesk desk = new CountedDesk();
        DUE.due("P5 addGlass() of '" + text + "'", Due.add(desk, text), error);
        DUE.due("P5 glassCount() behind '" + text + "'", desk.glassCount(), 0);
        DUE.due("P5 the length of '" + text + "' behind it", desk.clearBuffer(), text.length());
    }

    private static void addGlassRefusesTheText() {
        refused("", AchromatDesk.INVALID_GLASS);
        refused("BK7", AchromatDesk.INVALID_GLASS);
        refused("BK7 ", AchromatDesk.INVALID_GLASS);
        refused("BK7 152238", AchromatDesk.INVALID_GLASS);
        refused("BK7 152238 151680 ", AchromatDesk.INVALID_GLASS);
        refused("BK7 152238 151680 15143", AchromatDesk.INVALID_GLASS);
        refused("BK7 152238 151680 151432 ", AchromatDesk.INVALID_GLASS);
        refused("BK7 152238 151680 1514320", AchromatDesk.INVALID_GLASS);
        refused("BK7 052238 151680 151432", AchromatDesk.INVALID_GLASS);
        refused("bk7 152238 151680 151432", AchromatDesk.INVALID_GLASS);
        refused("7BK 152238 151680 151432", AchromatDesk.INVALID_GLASS);
        refused(" 152238 151680 151432", AchromatDesk.INVALID_GLASS);
        refused("ABCDEFG 152238 151680 151432", AchromatDesk.INVALID_GLASS);
        refused("BK7 152238 151680 15143A", AchromatDesk.INVALID_GLASS);
    }

    private static void addGlassRefusesTheIndices() {
        refused("A 130001 130000 129999", AchromatDesk.OUT_OF_RANGE);
        refused("A 230001 230000 229999", AchromatDesk.OUT_OF_RANGE);
        refused("A 150001 150001 150000", AchromatDesk.OUT_OF_RANGE);
        refused("A 150001 150000 150000", AchromatDesk.OUT_OF_RANGE);
        refused("A 150000 150001 149999", AchromatDesk.OUT_OF_RANGE);
        refused("A 150002 150000 150001", AchromatDesk.OUT_OF_RANGE);
        refused("A 160000 155000 150000", AchromatDesk.OUT_OF_RANGE);
        refused("A 999999 999998 999997", AchromatDesk.OUT_OF_RANGE);
        refused("A 100002 100001 100000", AchromatDesk.OUT_OF_RANGE);
        CountedDesk desk = new CountedDesk();
        DUE.due("P5 the least indices", Due.add(desk, "A 130002 130001 130000"), 0);
        DUE.due("P5 the greatest indices", Due.add(desk, "B 230000 229999 229998"), 1);
        DUE.due("P5 the greatest nF - nC", Due.add(desk, "C 159999 155000 150000"), 2);
        DUE.due("P5 the longest name", Due.add(desk, "ABCDEF 152238 151680 151432"), 3);
        DUE.due("P5 a name with digits", Due.add(desk, "A99999 152238 151680 151432"), 4);
        DUE.due("P7 glassCount()", desk.glassCount(), 5);
        DUE.due("P5 the buffer is empty", desk.clearBuffer(), 0);
    }

    private static void addGlassErrorsInTheirOrder() {
        CountedDesk desk = Due.deskWith("G3 152238 151680 151432");
        DUE.due("P5 a known name", Due.add(desk, "G3 163208 162004 161506"), AchromatDesk.DUPLICATE);
        DUE.due("P5 a known name, wrong indices",
            Due.add(desk, "G3 161506 162004 163208"), AchromatDesk.OUT_OF_RANGE);
        DUE.due("P5 a known name, wrong text", Due.add(desk, "G3 163208"), AchromatDesk.INVALID_GLASS);
        DUE.due("P6 removeGlass(0)", desk.removeGlass(0), 0);
        DUE.due("P5 a removed name", Due.add(desk, "G3 163208 162004 161506"), 0);
    }

    private static void addGlassChangesNothingOnError() {
        CountedDesk desk = Due.deskWith(Due.BK7);
        DUE.due("P5 a known name", Due.add(desk, "BK7 163208 162004 161506"), AchromatDesk.DUPLICATE);
        DUE.due("P5 errorPosition() behind it", desk.errorPosition(), 24);
        DUE.due("P5 index(0, 0) behind it", desk.index(0, 0), 152238);
        DUE.due("P5 glassCount() behind it", desk.glassCount(), 1);
        DUE.due("P5 append(48) behind it", desk.append(48), 25);
        DUE.due("P5 a beginning of a known name", Due.add(desk, "BK 152238 151680 151432"), 1);
        DUE.due("P5 a known name and a sign more", Due.add(desk, "BK70 152238 151680 151432"), 2);
    }

    private static void removeGlass() {
        CountedDesk desk = Due.deskWith(Due.BK7, Due.F2, Due.SF10, Due.LAK9);
        DUE.due("P6 addLens(2, 7)", desk.addLens(2, 7), 0);
        DUE.due("P6 addLens(0, 9)", desk.addLens(0, 9), 1);
        DUE.due("P6 removeGlass(-1)", desk.removeGlass(-1), AchromatDesk.NO_SUCH_GLASS);
        DUE.due("P6 removeGlass(4)", desk.removeGlass(4), AchromatDesk.NO_SUCH_GLASS);
        DUE.due("P6 removeGlass(2)", desk.removeGlass(2), AchromatDesk.IN_USE);
        DUE.due("P6 removeGlass(0)", desk.removeGlass(0), AchromatDesk.IN_USE);
        DUE.due("P6 glassCount() behind errors", desk.glassCount(), 4);
        long power = desk.systemPower(0);
        DUE.due("P6 removeGlass(1)", desk.removeGlass(1), 3);
        DUE.due("P6 index(0, 0)", desk.index(0, 0), 152238);
        DUE.due("P6 index(1, 1)", desk.index(1, 1), 172825);
        DUE.due("P6 index(2, 2)", desk.index(2, 2), 168795);
        DUE.due("P6 index(3, 0)", desk.index(3, 0), AchromatDesk.NO_SUCH_GLASS);
        DUE.due("P6 placeByName(2)", desk.placeByName(2), 1);
        DUE.due("P6 systemPower(0)", desk.systemPower(0), power);
        DUE.due("P6 removeGlass(1), now SF10", desk.removeGlass(1), AchromatDesk.IN_USE);
        DUE.due("P6 removeGlass(2), now LAK9", desk.removeGlass(2), 2);
        DUE.due("P6 removeLens(0)", desk.removeLens(0), 1);
        DUE.due("P6 removeGlass(1), free now", desk.removeGlass(1), 1);
        DUE.due("P6 the next number", Due.add(desk, Due.F2), 1);
        DUE.due("P6 removeLens(0)", desk.removeLens(0), 0);
        DUE.due("P6 removeGlass(0)", desk.removeGlass(0), 1);
        DUE.due("P6 removeGlass(0)", desk.removeGlass(0), 0);
        DUE.due("P6 removeGlass(0) of none", desk.removeGlass(0), AchromatDesk.NO_SUCH_GLASS);
    }

    private static void index() {
        CountedDesk desk = Due.deskWith(Due.BK7, Due.F2);
        DUE.due("P8 index(0, 0)", desk.index(0, 0), 152238);
        DUE.due("P8 index(0, 1)", desk.index(0, 1), 151680);
        DUE.due("P8 index(0, 2)", desk.index(0, 2), 151432);
        DUE.due("P8 index(1, 0)", desk.index(1, 0), 163208);
        DUE.due("P8 index(1, 3)", desk.index(1, 3), AchromatDesk.OUT_OF_RANGE);
        DUE.due("P8 index(1, -1)", desk.index(1, -1), AchromatDesk.OUT_OF_RANGE);
        DUE.due("P8 index(2, 0)", desk.index(2, 0), AchromatDesk.NO_SUCH_GLASS);
        DUE.due("P8 index(2, 3)", desk.index(2, 3), AchromatDesk.NO_SUCH_GLASS);
        DUE.due("P8 index(-1, 0)", desk.index(-1, 0), AchromatDesk.NO_SUCH_GLASS);
        DUE.due("P8 index(min, max)",
            desk.index(Integer.MIN_VALUE, Integer.MAX_VALUE), AchromatDesk.NO_SUCH_GLASS);
    }

    private static void placeByName() {
        String[] names = {"BK7", "BK", "BKA", "ZZZZZZ", "A", "BK70", "B9", "ZZZZZ", "AZZZZZ"};
        int[] places = {4, 3, 6, 8, 0, 5, 2, 7, 1};
        CountedDesk desk = new CountedDesk();
        for (String name : names) {
            Due.add(desk, Due.glass(name, 152238, 151680, 151432));
        }
        for (int glass = 0; glass < names.length; glass++) {
            DUE.due("P9 placeByName of " + names[glass], desk.placeByName(glass), places[glass]);
        }
        DUE.due("P9 placeByName(9)", desk.placeByName(9), AchromatDesk.NO_SUCH_GLASS);
        DUE.due("P9 placeByName(-1)", desk.placeByName(-1), AchromatDesk.NO_SUCH_GLASS);
    }

    private static void abbeAndPartial() {
        CountedDesk desk = Due.deskWith(Due.BK7, Due.F2, "LOW 130002 130001 130000",
            "WIDE 139999 130001 130000", "TOP 230000 229999 229998");
        long[] abbe = {64119, 36430, 15000500, 3000, 64999500};
        long[] partial = {69230, 70740, 50000, 99989, 50000};
        for (int glass = 0; glass < abbe.length; glass++) {
            DUE.due("P10 abbe(" + glass + ")", desk.abbe(glass), abbe[glass]);
            DUE.due("P11 partial(" + glass + ")", desk.partial(glass), partial[glass]);
        }
        DUE.due("P10 abbe(5)", desk.abbe(5), AchromatDesk.NO_SUCH_GLASS);
        DUE.due("P10 abbe(-1)", desk.abbe(-1), AchromatDesk.NO_SUCH_GLASS);
        DUE.due("P11 partial(5)", desk.partial(5), AchromatDesk.NO_SUCH_GLASS);
        DUE.due("P11 partial(-1)", desk.partial(-1), AchromatDesk.NO_SUCH_GLASS);
    }

    private static void glassWithAbbe() {
        CountedDesk desk = Due.deskWith(Due.BK7, Due.F2, Due.SF10, "TWIN 163208 162004 161506",
            // 1000 * A / B is 36430.08 for F2 and 36430.00 here: equal only when rounded down.
            "NEAR 151942 151002 150542");
        DUE.due("P12 abbe(4)", desk.abbe(4), 36430);
        DUE.due("P12 glassWithAbbe(0)", desk.glassWithAbbe(0), 2);
        DUE.due("P12 glassWithAbbe(min)", desk.glassWithAbbe(Integer.MIN_VALUE), 2);
        DUE.due("P12 glassWithAbbe(28413)", desk.glassWithAbbe(28413), 2);
        DUE.due("P12 glassWithAbbe(28414)", desk.glassWithAbbe(28414), 1);
        DUE.due("P12 glassWithAbbe(36430)", desk.glassWithAbbe(36430), 1);
        DUE.due("P12 glassWithAbbe(36431)", desk.glassWithAbbe(36431), 0);
        DUE.due("P12 glassWithAbbe(64119)", desk.glassWithAbbe(64119), 0);
        DUE.due("P12 glassWithAbbe(64120)", desk.glassWithAbbe(64120), AchromatDesk.NOTHING);
        DUE.due("P12 glassWithAbbe(max)", desk.glassWithAbbe(Integer.MAX_VALUE), AchromatDesk.NOTHING);
        DUE.due("P12 glassWithAbbe(0), the first", Due.deskWith(Due.SF10, Due.F2, Due.BK7).glassWithAbbe(0), 0);
        DUE.due("P12 glassWithAbbe(0) of none", new CountedDesk().glassWithAbbe(0), AchromatDesk.NOTHING);
    }
}
