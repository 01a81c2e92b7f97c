import java.util.Random;

/**
 * Long runs of calls, each asked of the program and of ModelDesk. The seeds are fixed, so that a
 * run that fails can be run again.
 */
final class ModelTest {
    private static final int RUNS = 600;
    private static final int CALLS = 512;
    private static final String[] KNOWN = {
        Due.BK7, Due.F2, Due.SF10, Due.LAK9, Due.FK51,
        "BK 152238 151680 151432", "BK70 152238 151680 151432", "A 152238 151680 151432",
        "KZFS4 162309 161338 160922", "LOW 130002 130001 130000", "TOP 230000 229999 229998",
        "WIDE 139999 130001 130000", "WIDE2 230000 220002 220001", "WIDE3 230000 229999 220001",
        "HALF 160400 160200 160000", "HALF2 160200 160100 160000", "HALF4 160800 160400 160000"};
    private static final int[] NUMBERS = {
        Integer.MIN_VALUE, -10000001, -10000000, -10001, -10000, -1000, -1, 0, 1, 2, 3, 999, 1000,
        1001, 9999, 10000, 10001, 999999, 1000000, 1000001, 10000000, 10000001, Integer.MAX_VALUE};
    private static final Due DUE = new Due();

    private final int seed;
    private final Random random;
    private final AchromatDesk desk = new AchromatDesk();
    private final ModelDesk model = new ModelDesk();
    // Some runs fill the catalogue, others leave their calls for the rest.
    private final int glassesWanted;
    private int calls;

    private ModelTest(int seed) {
        this.seed = seed;
        random = new Random(seed);
        glassesWanted = random.nextInt(22);
    }

    public static void main(String[] args) {
        for (int seed = 1; seed <= RUNS; seed++) {
            new ModelTest(seed).run();
        }
        DUE.end();
    }

    private void run() {
        while (calls < CALLS - 1) {
            if (model.glassCount() < glassesWanted && random.nextInt(3) > 0) {
                typeGlass();
            } else {
                askAny();
            }
        }
        check("digest()", desk.digest(), model.digest());
    }

    private void check(String call, long got, long want) {
        calls++;
        DUE.due("run " + seed + ", call " + calls + ": " + call, got, want);
    }

    private void typeGlass() {
        if (random.nextInt(10) > 0) {
            check("clearBuffer()", desk.clearBuffer(), model.clearBuffer());
        }
        String text = random.nextInt(10) == 0 ? spoiled(glassText()) : glassText();
        for (int at = 0; at < text.length() && calls < CALLS - 1; at++) {
            char ch = text.charAt(at);
            check("append(" + (int) ch + ")", desk.append(ch), model.append(ch));
        }
        if (random.nextInt(4) == 0) {
            check("errorPosition()", desk.errorPosition(), model.errorPosition());
        }
        check("addGlass() of '" + text + "'", desk.addGlass(), model.addGlass());
    }

    private String glassText() {
        if (random.nextInt(3) == 0) {
            return KNOWN[random.nextInt(KNOWN.length)];
        }
        String letters = random.nextBoolean() ? "AB" : "ABCDEFGHIJKLMNOPQRSTUVWXYZ";
        StringBuilder name = new StringBuilder();
        name.append(letters.charAt(random.nextInt(letters.length())));
        String signs = letters + "0189";
        for (int more = random.nextInt(6); more > 0; more--) {
            name.append(signs.charAt(random.nextInt(signs.length())));
        }
        int step = random.nextBoolean() ? 1 : 1000;
        int indexC = 130000 + step * random.nextInt(100000 / step);
        int indexD = indexC + 1 + random.nextInt(random.nextBoolean() ? 3 : 5000);
        int indexF = indexD + 1 + random.nextInt(random.nextBoolean() ? 3 : 5000);
        return Due.glass(name.toString(), indexF, indexD, indexC);
    }

    private String spoiled(String text) {
        StringBuilder wrong = new StringBuilder(text);
        int at = random.nextInt(text.length());
        char sign = "Aa0 9Z[@/:-".charAt(random.nextInt(11));
        switch (random.nextInt(4)) {
            case 0 -> wrong.setCharAt(at, sign);
            case 1 -> wrong.insert(at, sign);
            case 2 -> wrong.deleteCharAt(at);
            default -> wrong.append(sign);
        }
        return wrong.toString();
    }

    private int number(int least, int bound) {
        if (random.nextInt(12) == 0) {
            return NUMBERS[random.nextInt(NUMBERS.length)];
        }
        return least + random.nextInt(bound - least);
    }

    private int glassNumber() {
        return number(random.nextInt(8) == 0 ? -1 : 0, (int) model.glassCount() + 1);
    }

    private long measured(int colour) {
        return switch (random.nextInt(12)) {
            case 0 -> 1000000000000L;
            case 1 -> -1000000000000L;
            case 2 -> random.nextBoolean() ? 1000000000001L : -1000000000001L;
            case 3 -> random.nextBoolean() ? Long.MIN_VALUE : Long.MAX_VALUE;
            case 4 -> 0;
            default -> model.systemPower(colour) + random.nextInt(100000000) - 50000000;
        };
    }

    private void askAny() {
        switch (random.nextInt(4)) {
            case 0 -> askCatalogue();
            case 1 -> askDesigns();
            case 2 -> askSystem();
            default -> askPlates();
        }
    }

    private void askCatalogue() {
        int glass = glassNumber();
        switch (random.nextInt(12)) {
            case 0 -> {
                int ch = random.nextInt(3) == 0 ? number(31, 128) : "AZ 019".charAt(random.nextInt(6));
                check("append(" + ch + ")", desk.append(ch), model.append(ch));
            }
            case 1 -> check("errorPosition()", desk.errorPosition(), model.errorPosition());
            case 2 -> check("addGlass()", desk.addGlass(), model.addGlass());
            case 3 -> {
                if (random.nextInt(4) == 0) {
                    check("removeGlass(" + glass + ")", desk.removeGlass(glass), model.removeGlass(glass));
                }
            }
            case 4 -> check("glassCount()", desk.glassCount(), model.glassCount());
            case 5, 6 -> {
                int colour = number(-1, 4);
                check("index(" + glass + ", " + colour + ")",
                    desk.index(glass, colour), model.index(glass, colour));
            }
            case 7 -> check("placeByName(" + glass + ")", desk.placeByName(glass), model.placeByName(glass));
            case 8 -> check("abbe(" + glass + ")", desk.abbe(glass), model.abbe(glass));
            case 9 -> check("partial(" + glass + ")", desk.partial(glass), model.partial(glass));
            case 10 -> {
                int value = (int) Math.max(0, model.abbe(glass)) + random.nextInt(3) - 1;
                check("glassWithAbbe(" + value + ")", desk.glassWithAbbe(value), model.glassWithAbbe(value));
            }
            default -> {
                int value = number(0, 150000);
                check("glassWithAbbe(" + value + ")", desk.glassWithAbbe(value), model.glassWithAbbe(value));
            }
        }
    }

    private void askDesigns() {
        int first = glassNumber();
        int second = glassNumber();
        int third = glassNumber();
        int power = number(-10000, 10001);
        switch (random.nextInt(8)) {
            case 0, 1 -> {
                int lens = number(-1, 3);
                check("doubletPower(" + first + ", " + second + ", " + power + ", " + lens + ")",
                    desk.doubletPower(first, second, power, lens),
                    model.doubletPower(first, second, power, lens));
            }
            case 2 -> check("secondarySpectrum(" + first + ", " + second + ", " + power + ")",
                desk.secondarySpectrum(first, second, power), model.secondarySpectrum(first, second, power));
            case 3, 4 -> {
                boolean byStrain = random.nextBoolean();
                int place = number(-1, (int) model.doubletCount() + 1);
                check("doubletAt(" + byStrain + ", " + place + ")",
                    desk.doubletAt(byStrain, place), model.doubletAt(byStrain, place));
            }
            case 5 -> check("doubletCount()", desk.doubletCount(), model.doubletCount());
            case 6 -> {
                int lens = number(-1, 4);
                check("tripletPower(" + first + ", " + second + ", " + third + ", " + power + ", " + lens + ")",
                    desk.tripletPower(first, second, third, power, lens),
                    model.tripletPower(first, second, third, power, lens));
            }
            default -> check("bestTriplet()", desk.bestTriplet(), model.bestTriplet());
        }
    }

    private void askSystem() {
        int glass = glassNumber();
        switch (random.nextInt(8)) {
            case 0, 1 -> {
                int power = number(-10000000, 10000001);
                check("addLens(" + glass + ", " + power + ")",
                    desk.addLens(glass, power), model.addLens(glass, power));
            }
            case 2 -> {
                int lens = number(-1, (int) model.lensCount() + 1);
                if (random.nextInt(4) == 0) {
                    check("removeLens(" + lens + ")", desk.removeLens(lens), model.removeLens(lens));
                }
            }
            case 3 -> check("lensCount()", desk.lensCount(), model.lensCount());
            case 4 -> {
                int colour = number(-1, 4);
                check("systemPower(" + colour + ")", desk.systemPower(colour), model.systemPower(colour));
            }
            case 5 -> check("balancePower(" + glass + ")", desk.balancePower(glass), model.balancePower(glass));
            default -> {
                long f = measured(0);
                long d = measured(1);
                long c = measured(2);
                check("findWrongGlass(" + f + ", " + d + ", " + c + ")",
                    desk.findWrongGlass(f, d, c), model.findWrongGlass(f, d, c));
            }
        }
    }

    private void askPlates() {
        switch (random.nextInt(7)) {
            case 0, 1 -> {
                int radius = random.nextBoolean() ? 1000 * (1 + random.nextInt(30)) : number(1000, 1000001);
                check("addPlate(" + radius + ")", desk.addPlate(radius), model.addPlate(radius));
            }
            case 2 -> check("plateCount()", desk.plateCount(), model.plateCount());
            case 3 -> {
                int radius = random.nextBoolean() ? 500 * random.nextInt(80) : number(-5, 1200000);
                check("nearestPlate(" + radius + ")", desk.nearestPlate(radius), model.nearestPlate(radius));
            }
            case 4 -> {
                int lens = number(-1, (int) model.lensCount() + 1);
                check("bestSurfaces(" + lens + ")", desk.bestSurfaces(lens), model.bestSurfaces(lens));
            }
            case 5 -> {
                int plates = (int) model.plateCount() + 1;
                int choice = 1000 * random.nextInt(plates) + 10 * random.nextInt(plates) + random.nextInt(5);
                askSurfacePower(random.nextInt(12) == 0 ? number(-1, 20000) : choice);
            }
            default -> check("digest()", desk.digest(), model.digest());
        }
    }

    private void askSurfacePower(int choice) {
        int glass = glassNumber();
        check("surfacePower(" + glass + ", " + choice + ")",
            desk.surfacePower(glass, choice), model.surfacePower(glass, choice));
    }
}
