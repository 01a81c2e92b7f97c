import java.util.function.IntFunction;
import java.util.function.ToLongFunction;

/**
 * "A method that returns an error code changes nothing": each method, with each of its error codes,
 * at both ends of the range and with the least and the greatest number.
 */
final class RefusalTest {
    private static final int MIN = Integer.MIN_VALUE;
    private static final int MAX = Integer.MAX_VALUE;
    private static final int[] WRONG_COLOURS = {MIN, -1, 3, MAX};
    private static final int[] WRONG_POWERS = {MIN, -10001, 10001, MAX};
    private static final Due DUE = new Due();
    private static final Twins RICH = new Twins(DUE, Desks::rich);
    private static final Twins FULL = new Twins(DUE, Desks::full);
    private static final Twins NEW = new Twins(DUE, CountedDesk::new);

    public static void main(String[] args) {
        append();
        addGlassOfAWrongText();
        addGlassOfWrongIndices();
        addGlassToAFullCatalogue();
        addGlassOfAKnownName();
        removeGlass();
        questionsOfOneGlass();
        doublets();
        doubletsWithoutPowers();
        triplets();
        tripletsWithoutPowers();
        addLens();
        lenses();
        findWrongGlass();
        addPlate();
        surfaces();
        DUE.end();
    }

    /** The same call with each of the wrong numbers. */
    private static void each(
            Twins twins, String call, int[] wrong, IntFunction<ToLongFunction<CountedDesk>> asked, long code) {
        for (int number : wrong) {
            twins.unchanged(call + " with " + number, asked.apply(number), code);
        }
    }

    /** The numbers next to those of a row of so many, and the farthest. */
    private static int[] outside(int count) {
        return new int[] {MIN, -1, count, MAX};
    }

    private static CountedDesk withBuffer(CountedDesk desk, String text) {
        desk.clearBuffer();
        Due.type(desk, text);
        return desk;
    }

    private static void append() {
        int[] wrong = {MIN, -1, 0, 31, 127, MAX};
        each(NEW, "P2 append", wrong, ch -> desk -> desk.append(ch), AchromatDesk.OUT_OF_RANGE);
        each(RICH, "P2 append", wrong, ch -> desk -> desk.append(ch), AchromatDesk.OUT_OF_RANGE);
        Twins full = new Twins(DUE, () -> withBuffer(Desks.rich(), "ABCDEF 152238 151680 151432~"));
        int[] allowed = {32, 65, 126};
        each(full, "P2 append to 28 signs", allowed, ch -> desk -> desk.append(ch), AchromatDesk.FULL);
    }

    private static void refusedGlass(String text, long code) {
        Twins twins = new Twins(DUE, () -> withBuffer(Desks.rich(), text));
        twins.unchanged("P5 addGlass() of '" + text + "'", CountedDesk::addGlass, code);
    }

    private static void addGlassOfAWrongText() {
        NEW.unchanged("P5 addGlass() of nothing", CountedDesk::addGlass, AchromatDesk.INVALID_GLASS);
        refusedGlass("", AchromatDesk.INVALID_GLASS);
        refusedGlass("K", AchromatDesk.INVALID_GLASS);
        refusedGlass("K5 152458 152249 15198", AchromatDesk.INVALID_GLASS);
        refusedGlass("K5 152458 152249 151982 ", AchromatDesk.INVALID_GLASS);
        refusedGlass("k5 152458 152249 151982", AchromatDesk.INVALID_GLASS);
        refusedGlass("ABCDEF 152238 151680 1514320", AchromatDesk.INVALID_GLASS);
    }

    private static void addGlassOfWrongIndices() {
        refusedGlass("K5 130001 130000 129999", AchromatDesk.OUT_OF_RANGE);
        refusedGlass("K5 230001 230000 229999", AchromatDesk.OUT_OF_RANGE);
        refusedGlass("K5 152000 152000 151999", AchromatDesk.OUT_OF_RANGE);
        refusedGlass("K5 152001 152000 152000", AchromatDesk.OUT_OF_RANGE);
        refusedGlass("K5 160000 155000 150000", AchromatDesk.OUT_OF_RANGE);
    }

    private static void addGlassToAFullCatalogue() {
        Twins twins = new Twins(DUE, () -> {
            CountedDesk desk = Desks.twentyGlasses();
            Due.type(desk, "K 152238 151680 151432");
            return desk;
        });
        twins.unchanged("P5 addGlass() of a 21st", CountedDesk::addGlass, AchromatDesk.FULL);
    }

    private static void addGlassOfAKnownName() {
        refusedGlass("BK7 152238 151680 151432", AchromatDesk.DUPLICATE);
        refusedGlass("FK51 163208 162004 161506", AchromatDesk.DUPLICATE);
    }

    private static void removeGlass() {
        NEW.unchanged("P6 removeGlass(0) of none", desk -> desk.removeGlass(0), AchromatDesk.NO_SUCH_GLASS);
        each(RICH, "P6 removeGlass", outside(5), glass -> desk -> desk.removeGlass(glass),
            AchromatDesk.NO_SUCH_GLASS);
        each(FULL, "P6 removeGlass", outside(20), glass -> desk -> desk.removeGlass(glass),
            AchromatDesk.NO_SUCH_GLASS);
        int[] used = {0, 1, 3};
        each(RICH, "P6 removeGlass", used, glass -> desk -> desk.removeGlass(glass), AchromatDesk.IN_USE);
        int[] firstAndLast = {0, 19};
        each(FULL, "P6 removeGlass", firstAndLast, glass -> desk -> desk.removeGlass(glass),
            AchromatDesk.IN_USE);
    }

    private static void questionsOfOneGlass() {
        long code = AchromatDesk.NO_SUCH_GLASS;
        each(RICH, "P8 index", outside(5), glass -> desk -> desk.index(glass, 0), code);
        each(RICH, "P9 placeByName", outside(5), glass -> desk -> desk.placeByName(glass), code);
        each(RICH, "P10 abbe", outside(5), glass -> desk -> desk.abbe(glass), code);
        each(RICH, "P11 partial", outside(5), glass -> desk -> desk.partial(glass), code);
        each(RICH, "P23 balancePower", outside(5), glass -> desk -> desk.balancePower(glass), code);
        each(RICH, "P29 surfacePower", outside(5), glass -> desk -> desk.surfacePower(glass, 1), code);
        each(RICH, "P8 colour", WRONG_COLOURS, colour -> desk -> desk.index(4, colour),
            AchromatDesk.OUT_OF_RANGE);
        // FK51 has 84472, the greatest value of abbe.
        int[] over = {84473, MAX};
        each(RICH, "P12 glassWithAbbe", over, value -> desk -> desk.glassWithAbbe(value), AchromatDesk.NOTHING);
        NEW.unchanged("P12 of no glass", desk -> desk.glassWithAbbe(MIN), AchromatDesk.NOTHING);
    }

    private static void doublets() {
        long code = AchromatDesk.NO_SUCH_GLASS;
        each(RICH, "P13 first", outside(5), glass -> desk -> desk.doubletPower(glass, 0, 1, 0), code);
        each(RICH, "P13 second", outside(5), glass -> desk -> desk.doubletPower(0, glass, 1, 1), code);
        each(RICH, "P14 first", outside(5), glass -> desk -> desk.secondarySpectrum(glass, 0, 1), code);
        each(RICH, "P14 second", outside(5), glass -> desk -> desk.secondarySpectrum(0, glass, 1), code);
        each(RICH, "P13 power", WRONG_POWERS, power -> desk -> desk.doubletPower(0, 1, power, 0),
            AchromatDesk.OUT_OF_RANGE);
        each(RICH, "P14 power", WRONG_POWERS, power -> desk -> desk.secondarySpectrum(0, 1, power),
            AchromatDesk.OUT_OF_RANGE);
        each(RICH, "P13 lens", outside(2), lens -> desk -> desk.doubletPower(0, 1, 1, lens),
            AchromatDesk.OUT_OF_RANGE);
        each(RICH, "P15 by spectrum", outside(10), place -> desk -> desk.doubletAt(false, place),
            AchromatDesk.NOTHING);
        each(RICH, "P15 by strain", outside(10), place -> desk -> desk.doubletAt(true, place),
            AchromatDesk.NOTHING);
    }

    private static void doubletsWithoutPowers() {
        RICH.unchanged("P13 of one glass", desk -> desk.doubletPower(4, 4, 1, 0), AchromatDesk.NOTHING);
        RICH.unchanged("P14 of one glass", desk -> desk.secondarySpectrum(4, 4, 1), AchromatDesk.NOTHING);
        Twins parallel = new Twins(DUE, () -> Due.deskWith("P 150150 150000 149950", "R 200100 200000 199700"));
        parallel.unchanged("P13 where E is 0", desk -> desk.doubletPower(0, 1, 1, 0), AchromatDesk.NOTHING);
        parallel.unchanged("P14 where E is 0", desk -> desk.secondarySpectrum(1, 0, 1), AchromatDesk.NOTHING);
        parallel.unchanged("P15 where E is 0", desk -> desk.doubletAt(true, 0), AchromatDesk.NOTHING);
    }

    private static void triplets() {
        long code = AchromatDesk.NO_SUCH_GLASS;
        each(RICH, "P17 first", outside(5), glass -> desk -> desk.tripletPower(glass, 0, 1, 1, 0), code);
        each(RICH, "P17 second", outside(5), glass -> desk -> desk.tripletPower(0, glass, 1, 1, 1), code);
        each(RICH, "P17 third", outside(5), glass -> desk -> desk.tripletPower(0, 1, glass, 1, 2), code);
        RICH.unchanged("P17 (4, 4, 0)", desk -> desk.tripletPower(4, 4, 0, 1, 0), AchromatDesk.DUPLICATE);
        RICH.unchanged("P17 (4, 0, 4)", desk -> desk.tripletPower(4, 0, 4, 1, 0), AchromatDesk.DUPLICATE);
        RICH.unchanged("P17 (0, 4, 4)", desk -> desk.tripletPower(0, 4, 4, 1, 0), AchromatDesk.DUPLICATE);
        RICH.unchanged("P17 (4, 4, 4)", desk -> desk.tripletPower(4, 4, 4, 1, 0), AchromatDesk.DUPLICATE);
        each(RICH, "P17 power", WRONG_POWERS, power -> desk -> desk.tripletPower(0, 1, 2, power, 0),
            AchromatDesk.OUT_OF_RANGE);
        each(RICH, "P17 lens", outside(3), lens -> desk -> desk.tripletPower(0, 1, 2, 1, lens),
            AchromatDesk.OUT_OF_RANGE);
    }

    private static void tripletsWithoutPowers() {
        Twins flat = new Twins(DUE, () -> Due.deskWith(
            "A 150200 150100 150000", "B 160400 160200 160000", "C 151000 150500 150000"));
        flat.unchanged("P17 where T is 0", desk -> desk.tripletPower(0, 1, 2, 1, 0), AchromatDesk.NOTHING);
        flat.unchanged("P18 where T is 0", CountedDesk::bestTriplet, AchromatDesk.NOTHING);
        Twins two = new Twins(DUE, () -> Due.deskWith(Due.BK7, Due.F2));
        two.unchanged("P18 of two glasses", CountedDesk::bestTriplet, AchromatDesk.NOTHING);
        NEW.unchanged("P18 of no glass", CountedDesk::bestTriplet, AchromatDesk.NOTHING);
    }

    private static void addLens() {
        NEW.unchanged("P19 addLens(0, 1) of none", desk -> desk.addLens(0, 1), AchromatDesk.NO_SUCH_GLASS);
        each(RICH, "P19 glass", outside(5), glass -> desk -> desk.addLens(glass, 1), AchromatDesk.NO_SUCH_GLASS);
        int[] wrong = {MIN, -10000001, 10000001, MAX};
        each(RICH, "P19 power", wrong, power -> desk -> desk.addLens(4, power), AchromatDesk.OUT_OF_RANGE);
        int[] allowed = {-10000000, 0, 10000000};
        each(FULL, "P19 a ninth", allowed, power -> desk -> desk.addLens(3, power), AchromatDesk.FULL);
    }

    private static void lenses() {
        long code = AchromatDesk.NO_SUCH_LENS;
        NEW.unchanged("P20 removeLens(0) of none", desk -> desk.removeLens(0), code);
        each(RICH, "P20 removeLens", outside(3), lens -> desk -> desk.removeLens(lens), code);
        each(FULL, "P20 removeLens", outside(8), lens -> desk -> desk.removeLens(lens), code);
        each(NEW, "P22 colour", WRONG_COLOURS, colour -> desk -> desk.systemPower(colour),
            AchromatDesk.OUT_OF_RANGE);
        each(RICH, "P22 colour", WRONG_COLOURS, colour -> desk -> desk.systemPower(colour),
            AchromatDesk.OUT_OF_RANGE);
    }

    private static void findWrongGlass() {
        long[] wrong = {Long.MIN_VALUE, -1000000000001L, 1000000000001L, Long.MAX_VALUE};
        for (long far : wrong) {
            RICH.unchanged("P24 F is " + far, desk -> desk.findWrongGlass(far, 0, 0), AchromatDesk.OUT_OF_RANGE);
            RICH.unchanged("P24 d is " + far, desk -> desk.findWrongGlass(0, far, 0), AchromatDesk.OUT_OF_RANGE);
            RICH.unchanged("P24 C is " + far, desk -> desk.findWrongGlass(0, 0, far), AchromatDesk.OUT_OF_RANGE);
        }
        Twins noLens = new Twins(DUE, () -> Due.deskWith(Due.BK7, Due.F2));
        noLens.unchanged("P24 no lens", desk -> desk.findWrongGlass(0, 0, 0), AchromatDesk.NOTHING);
        Twins oneGlass = new Twins(DUE, () -> {
            CountedDesk desk = Due.deskWith(Due.BK7);
            desk.addLens(0, 1000);
            return desk;
        });
        oneGlass.unchanged("P24 one glass", desk -> desk.findWrongGlass(0, 0, 0), AchromatDesk.NOTHING);
    }

    private static void addPlate() {
        int[] wrong = {MIN, -1000, 0, 999, 1000001, MAX};
        each(NEW, "P25 addPlate", wrong, radius -> desk -> desk.addPlate(radius), AchromatDesk.OUT_OF_RANGE);
        each(RICH, "P25 addPlate", wrong, radius -> desk -> desk.addPlate(radius), AchromatDesk.OUT_OF_RANGE);
        int[] known = {80000, 33333};
        each(RICH, "P25 addPlate", known, radius -> desk -> desk.addPlate(radius), AchromatDesk.DUPLICATE);
        int[] fresh = {1002, 999998};
        each(FULL, "P25 a 17th", fresh, radius -> desk -> desk.addPlate(radius), AchromatDesk.FULL);
    }

    private static void surfaces() {
        NEW.unchanged("P27 of no plate", desk -> desk.nearestPlate(1000), AchromatDesk.NOTHING);
        each(RICH, "P28 lens", outside(3), lens -> desk -> desk.bestSurfaces(lens), AchromatDesk.NO_SUCH_LENS);
        Twins noPlate = new Twins(DUE, () -> {
            CountedDesk desk = Due.deskWith(Due.BK7);
            desk.addLens(0, 1000);
            return desk;
        });
        noPlate.unchanged("P28 of no plate", desk -> desk.bestSurfaces(0), AchromatDesk.NOTHING);
        int[] wrong = {MIN, -1, 4, 9, 40, 4000, 0, 3, 3030, 3033, MAX};
        each(RICH, "P29 choice", wrong, choice -> desk -> desk.surfacePower(0, choice), AchromatDesk.OUT_OF_RANGE);
    }
}
