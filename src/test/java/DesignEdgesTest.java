/** The boundary cases of promises 13 to 18, and what the description says of doublets and triplets. */
final class DesignEdgesTest {
    private static final int MIN = Integer.MIN_VALUE;
    private static final int MAX = Integer.MAX_VALUE;
    private static final String BK7_TWIN = "U 152238 151680 151432";
    private static final String F2_TWIN = "V 163208 162004 161506";
    private static final String SF10_TWIN = "W 174648 172825 172085";
    private static final Due DUE = new Due();

    public static void main(String[] args) {
        theLastPowers();
        theFirstPowersBeyond();
        theLensesOfADoublet();
        theLensesOfATriplet();
        wholeAndBrokenPowers();
        theGreatestDoubletPowers();
        theGreatestSpectra();
        theGreatestE();
        theGreatestTripletPowers();
        exactWhereDoublesAreNot();
        noE();
        placesOfTheRanking();
        badnessesFarApart();
        spectraThatDifferLeast();
        strainsThatDifferLeast();
        equalInBothBadnesses();
        fewGlasses();
        twentyOfOneKind();
        theLastTripletIsTheBest();
        equalTriplets();
        noT();
        anExchangedGlass();
        DUE.end();
    }

    private static void theLastPowers() {
        CountedDesk desk = Due.deskWith(Due.BK7, Due.F2, Due.SF10);
        DUE.due("P13 power 10000", desk.doubletPower(0, 1, 10000, 0), 23156867);
        DUE.due("P13 power -10000", desk.doubletPower(0, 1, -10000, 0), -23156868);
        DUE.due("P13 power 0", desk.doubletPower(0, 1, 0, 1), 0);
        DUE.due("P14 power 10000", desk.secondarySpectrum(0, 1, 10000), -5451750);
        DUE.due("P14 power -10000", desk.secondarySpectrum(0, 1, -10000), 5451749);
        DUE.due("P14 power 0", desk.secondarySpectrum(0, 1, 0), 0);
        DUE.due("P17 power 10000", desk.tripletPower(0, 1, 2, 10000, 0), -180305);
        DUE.due("P17 power -10000", desk.tripletPower(0, 1, 2, -10000, 0), 180304);
        DUE.due("P17 power 0", desk.tripletPower(0, 1, 2, 0, 0), 0);
    }

    private static void theFirstPowersBeyond() {
        CountedDesk desk = Due.deskWith(Due.BK7, Due.F2, Due.SF10);
        int[] beyond = {MIN, -10001, 10001, MAX};
        for (int power : beyond) {
            DUE.due("P13 power " + power, desk.doubletPower(0, 1, power, 0), AchromatDesk.OUT_OF_RANGE);
            DUE.due("P14 power " + power, desk.secondarySpectrum(0, 1, power), AchromatDesk.OUT_OF_RANGE);
            DUE.due("P17 power " + power, desk.tripletPower(0, 1, 2, power, 0), AchromatDesk.OUT_OF_RANGE);
        }
    }

    private static void theLensesOfADoublet() {
        CountedDesk desk = Due.deskWith(Due.BK7, Due.F2);
        int[] lenses = {MIN, -2, -1, 0, 1, 2, 3, MAX};
        long out = AchromatDesk.OUT_OF_RANGE;
        long[] powers = {out, out, out, 2315, -1316, out, out, out};
        long[] negative = {out, out, out, -2316, 1315, out, out, out};
        for (int at = 0; at < lenses.length; at++) {
            DUE.due("P13 lens " + lenses[at], desk.doubletPower(0, 1, 1, lenses[at]), powers[at]);
            DUE.due("P13 lens " + lenses[at] + " of -1", desk.doubletPower(0, 1, -1, lenses[at]), negative[at]);
        }
    }

    private static void theLensesOfATriplet() {
        CountedDesk desk = Due.deskWith(Due.BK7, Due.F2, Due.SF10);
        int[] lenses = {MIN, -2, -1, 0, 1, 2, 3, 4, MAX};
        long out = AchromatDesk.OUT_OF_RANGE;
        long[] powers = {out, out, out, -19, 50, -32, out, out, out};
        long[] negative = {out, out, out, 18, -51, 31, out, out, out};
        for (int at = 0; at < lenses.length; at++) {
            DUE.due("P17 lens " + lenses[at], desk.tripletPower(0, 1, 2, 1, lenses[at]), powers[at]);
            DUE.due("P17 lens " + lenses[at] + " of -1",
                desk.tripletPower(0, 1, 2, -1, lenses[at]), negative[at]);
        }
    }

    /** With B as 1 to 2 the powers are whole, with B as 2 to 5 they are thirds. */
    private static void wholeAndBrokenPowers() {
        CountedDesk desk = Due.deskWith(
            "A 150100 150000 149900", "B 150200 150000 149800", "C 150300 150000 149800");
        DUE.due("P13 whole, first", desk.doubletPower(0, 1, 1, 0), 2000);
        DUE.due("P13 whole, second", desk.doubletPower(0, 1, 1, 1), -1000);
        DUE.due("P13 whole, first of -1", desk.doubletPower(0, 1, -1, 0), -2000);
        DUE.due("P13 whole, second of -1", desk.doubletPower(0, 1, -1, 1), 1000);
        DUE.due("P14 no spectrum", desk.secondarySpectrum(0, 1, 10000), 0);
        DUE.due("P14 no spectrum of -10000", desk.secondarySpectrum(0, 1, -10000), 0);
        DUE.due("P13 broken, first", desk.doubletPower(0, 2, 1, 0), 1666);
        DUE.due("P13 broken, second", desk.doubletPower(0, 2, 1, 1), -667);
        DUE.due("P13 broken, first of -1", desk.doubletPower(0, 2, -1, 0), -1667);
        DUE.due("P13 broken, second of -1", desk.doubletPower(0, 2, -1, 1), 666);
        DUE.due("P14 broken", desk.secondarySpectrum(0, 2, 1), -667);
        DUE.due("P14 broken of -1", desk.secondarySpectrum(0, 2, -1), 666);
    }

    /** E is 1 for the first two, with A * B as great as it can be: 129986 * 9998 - 129973 * 9999. */
    private static void theGreatestDoubletPowers() {
        CountedDesk desk = Due.deskWith("I 230000 229986 220001", "J 230000 229973 220002");
        DUE.due("P13 E is 1, first", desk.doubletPower(0, 1, 10000, 0), 12996000280000000L);
        DUE.due("P13 E is 1, second", desk.doubletPower(0, 1, 10000, 1), -12996000270000000L);
        DUE.due("P13 E is 1, first of -10000", desk.doubletPower(0, 1, -10000, 0), -12996000280000000L);
        DUE.due("P13 E is 1, second of -10000", desk.doubletPower(0, 1, -10000, 1), 12996000270000000L);
        DUE.due("P13 E is -1, first", desk.doubletPower(1, 0, 10000, 0), -12996000270000000L);
        DUE.due("P13 E is -1, second", desk.doubletPower(1, 0, 10000, 1), 12996000280000000L);
        DUE.due("P15 E is 1", desk.doubletAt(true, 0), 1);
        DUE.due("P15 E is -1", desk.doubletAt(true, 1), AchromatDesk.NOTHING);
        DUE.due("P16 E is 1 or -1", desk.doubletCount(), 1);
    }

    /** E is 1, and D is 1 in the one glass and B - 1 in the other. */
    private static void theGreatestSpectra() {
        CountedDesk desk = Due.deskWith("I 219988 219987 209989", "J 229972 219975 219974");
        DUE.due("P14 E is 1", desk.secondarySpectrum(0, 1, 10000), -999500050000000000L);
        DUE.due("P14 E is 1, of -10000", desk.secondarySpectrum(0, 1, -10000), 999500050000000000L);
        DUE.due("P14 E is -1", desk.secondarySpectrum(1, 0, 10000), -999500050000000000L);
        DUE.due("P14 E is -1, of -10000", desk.secondarySpectrum(1, 0, -10000), 999500050000000000L);
    }

    private static void theGreatestE() {
        CountedDesk desk = Due.deskWith("L 139999 130001 130000", "T 230000 229999 229998");
        DUE.due("P13 first", desk.doubletPower(1, 0, 10000, 0), 10000461);
        DUE.due("P13 second", desk.doubletPower(1, 0, 10000, 1), -462);
        DUE.due("P13 second of 1", desk.doubletPower(1, 0, 1, 1), -1);
        DUE.due("P13 second of -1", desk.doubletPower(1, 0, -1, 1), 0);
        DUE.due("P14 of 10000", desk.secondarySpectrum(1, 0, 10000), -76912);
        DUE.due("P14 of -10000", desk.secondarySpectrum(1, 0, -10000), 76911);
        DUE.due("P15 the one with E above 0", desk.doubletAt(false, 0), 100);
        DUE.due("P15 the one with E below 0", desk.doubletAt(false, 1), AchromatDesk.NOTHING);
    }

    /** T is 1 in this order of the glasses, and -1 with two of them exchanged. */
    private static void theGreatestTripletPowers() {
        CountedDesk desk = Due.deskWith(
            "A 219840 219839 209841", "B 227981 217984 217983", "C 215473 215257 205853");
        long[] powers = {-112662527769080000L, -2536849493760000L, 115199377262850000L};
        for (int lens = 0; lens < 3; lens++) {
            DUE.due("P17 T is 1, lens " + lens, desk.tripletPower(0, 1, 2, 10000, lens), powers[lens]);
            DUE.due("P17 T is 1, lens " + lens + " of -10000",
                desk.tripletPower(0, 1, 2, -10000, lens), -powers[lens]);
            DUE.due("P17 T is -1, lens " + lens,
                desk.tripletPower(2, 1, 0, 10000, lens), powers[2 - lens]);
        }
        DUE.due("P18 T is 1", desk.bestTriplet(), 102);
    }

    /** Quotients so close to a whole number that a division of doubles rounds to the wrong one. */
    private static void exactWhereDoublesAreNot() {
        CountedDesk powers = Due.deskWith("I 216597 215055 209449", "J 206645 206169 197296",
            "K 223262 219996 213901", "L 201727 200631 192667");
        DUE.due("P13 exact", powers.doubletPower(0, 1, -9961, 0), -33826154);
        DUE.due("P13 exact", powers.doubletPower(2, 3, -9747, 0), -73000872);
        CountedDesk spectra = Due.deskWith("I 226239 218885 218839", "J 179774 176915 173683",
            "K 220912 215665 212406", "L 209233 205373 199528");
        DUE.due("P14 exact", spectra.secondarySpectrum(0, 1, -8045), -1227152715);
        DUE.due("P14 exact", spectra.secondarySpectrum(2, 3, 5958), 476400022);
        DUE.due("P17 exact", Due.deskWith("I 197503 195243 189662", "J 187127 180382 177440",
            "K 144427 139624 138714").tripletPower(0, 1, 2, 9999, 1), -26048470347L);
        DUE.due("P17 exact", Due.deskWith("I 191408 187058 187029", "J 195274 193674 187287",
            "K 186473 182425 182252").tripletPower(0, 1, 2, 9999, 2), -1064876835);
        DUE.due("P17 exact", Due.deskWith("I 191841 191465 184954", "J 228549 228019 218910",
            "K 224965 217086 216923").tripletPower(0, 1, 2, -10000, 1), -300896803061423L);
    }

    private static void noE() {
        CountedDesk desk = Due.deskWith("P 150150 150000 149950", "R 200100 200000 199700", BK7_TWIN, Due.BK7);
        int[][] pairs = {{0, 0}, {3, 3}, {0, 1}, {1, 0}, {2, 3}, {3, 2}};
        for (int[] pair : pairs) {
            String of = pair[0] + ", " + pair[1];
            DUE.due("P13 of " + of, desk.doubletPower(pair[0], pair[1], 10000, 0), AchromatDesk.NOTHING);
            DUE.due("P13 of " + of, desk.doubletPower(pair[0], pair[1], 0, 1), AchromatDesk.NOTHING);
            DUE.due("P14 of " + of, desk.secondarySpectrum(pair[0], pair[1], 0), AchromatDesk.NOTHING);
        }
        ranking(desk, true, 2, 3, 102, 103);
    }

    private static void placesOfTheRanking() {
        CountedDesk desk = Due.deskWith(Due.BK7, Due.F2, Due.SF10);
        long nothing = AchromatDesk.NOTHING;
        int[] places = {MIN, -1, 0, 1, 2, 3, MAX};
        long[] bySpectrum = {nothing, nothing, 102, 2, 1, nothing, nothing};
        long[] byStrain = {nothing, nothing, 2, 1, 102, nothing, nothing};
        for (int at = 0; at < places.length; at++) {
            DUE.due("P15 by spectrum, " + places[at], desk.doubletAt(false, places[at]), bySpectrum[at]);
            DUE.due("P15 by strain, " + places[at], desk.doubletAt(true, places[at]), byStrain[at]);
        }
    }

    private static void ranking(CountedDesk desk, boolean byStrain, int... codes) {
        for (int place = 0; place < codes.length; place++) {
            DUE.due("P15 (" + byStrain + ", " + place + ")", desk.doubletAt(byStrain, place), codes[place]);
        }
        DUE.due("P15 behind the last", desk.doubletAt(byStrain, codes.length), AchromatDesk.NOTHING);
        DUE.due("P16 doubletCount()", desk.doubletCount(), codes.length);
    }

    /** E is 1 in one doublet and 1299799999 in another, strains are from 1.0001 to 2599200055. */
    private static void badnessesFarApart() {
        CountedDesk strains = Due.deskWith("I 230000 229986 220001", "J 230000 229973 220002",
            "L 139999 130001 130000", "T 230000 229999 229998");
        ranking(strains, true, 302, 301, 300, 2, 102, 1);
        ranking(strains, false, 301, 300, 302, 102, 2, 1);
        CountedDesk spectra = Due.deskWith("I 219988 219987 209989", "J 229972 219975 219974",
            "L 139999 130001 130000", "T 230000 229999 229998");
        ranking(spectra, false, 102, 302, 301, 300, 2, 1);
        ranking(spectra, true, 302, 301, 300, 2, 102, 1);
        DUE.due("P18 far apart", spectra.bestTriplet(), 103);
    }

    /** The spectrum badnesses of 203 and 1 are alike in 17 digits, and 203's is less. */
    private static void spectraThatDifferLeast() {
        CountedDesk desk = Due.deskWith("A 201506 195812 192441", "B 162039 161524 152541",
            "C 172514 162855 162805", "D 144836 138593 135278");
        ranking(desk, false, 3, 2, 203, 1, 103, 102);
        ranking(desk, true, 3, 2, 1, 103, 203, 102);
    }

    /** The strains of 203 and 1 differ by 1 / 75085853820732318, and 203's is less. */
    private static void strainsThatDifferLeast() {
        CountedDesk desk = Due.deskWith("A 194931 191429 191030", "B 192375 184889 184231",
            "C 167449 166797 163896", "D 191643 181881 181850");
        ranking(desk, true, 3, 203, 1, 201, 103, 2);
    }

    private static void equalInBothBadnesses() {
        CountedDesk desk = Due.deskWith(Due.BK7, BK7_TWIN, Due.F2, F2_TWIN);
        ranking(desk, false, 2, 3, 102, 103);
        ranking(desk, true, 2, 3, 102, 103);
        CountedDesk turned = Due.deskWith(Due.F2, F2_TWIN, Due.BK7, BK7_TWIN);
        ranking(turned, false, 200, 201, 300, 301);
        ranking(turned, true, 200, 201, 300, 301);
    }

    private static void fewGlasses() {
        CountedDesk desk = new CountedDesk();
        ranking(desk, false);
        DUE.due("P18 of no glass", desk.bestTriplet(), AchromatDesk.NOTHING);
        Due.add(desk, Due.SF10);
        ranking(desk, true);
        DUE.due("P18 of one glass", desk.bestTriplet(), AchromatDesk.NOTHING);
        Due.add(desk, Due.F2);
        ranking(desk, false, 100);
        DUE.due("P18 of two glasses", desk.bestTriplet(), AchromatDesk.NOTHING);
        Due.add(desk, Due.BK7);
        ranking(desk, true, 200, 201, 100);
        DUE.due("P18 of three glasses", desk.bestTriplet(), 102);
    }

    /** 20 glasses: as many of one kind as the others leave, and then the others. */
    private static CountedDesk manyOfOneKindAnd(String... others) {
        CountedDesk desk = new CountedDesk();
        int many = 20 - others.length;
        for (int glass = 0; glass < 20; glass++) {
            String text = glass < many ? (char) ('A' + glass) + " 163208 162004 161506" : others[glass - many];
            Due.type(desk, text);
            DUE.due("P5 addGlass() of " + text, desk.addGlass(), glass);
        }
        return desk;
    }

    private static void twentyOfOneKind() {
        CountedDesk desk = manyOfOneKindAnd();
        ranking(desk, false);
        ranking(desk, true);
        DUE.due("P18 of one kind", desk.bestTriplet(), AchromatDesk.NOTHING);
        DUE.due("P17 of one kind", desk.tripletPower(0, 10, 19, 0, 0), AchromatDesk.NOTHING);
        DUE.due("P13 of one kind", desk.doubletPower(0, 19, 0, 0), AchromatDesk.NOTHING);
        DUE.due("P14 of one kind", desk.secondarySpectrum(19, 0, 0), AchromatDesk.NOTHING);
    }

    private static void theLastTripletIsTheBest() {
        CountedDesk desk = manyOfOneKindAnd(
            "X 149056 148656 148480", "Y 174648 172825 172085", "Z 152238 151680 151432");
        DUE.due("P18 17, 18 and 19", desk.bestTriplet(), 171819);
        DUE.due("P16 17 of one kind and three", desk.doubletCount(), 54);
        DUE.due("P6 removeGlass(0)", desk.removeGlass(0), 19);
        DUE.due("P18 16, 17 and 18", desk.bestTriplet(), 161718);
        DUE.due("P16 16 of one kind and three", desk.doubletCount(), 51);
    }

    private static void equalTriplets() {
        DUE.due("P18 the lowest i", Due.deskWith(Due.BK7, BK7_TWIN, Due.F2, Due.SF10).bestTriplet(), 203);
        DUE.due("P18 the lowest j", Due.deskWith(Due.BK7, Due.F2, F2_TWIN, Due.SF10).bestTriplet(), 103);
        DUE.due("P18 the lowest k", Due.deskWith(Due.BK7, Due.F2, Due.SF10, SF10_TWIN).bestTriplet(), 102);
        DUE.due("P18 i before j before k",
            Due.deskWith(Due.BK7, Due.F2, Due.SF10, BK7_TWIN, F2_TWIN, SF10_TWIN).bestTriplet(), 102);
    }

    /** D is half of B in the first three, so that every X is 0; twins make T 0 as well. */
    private static void noT() {
        CountedDesk desk = Due.deskWith(
            "A 150200 150100 150000", "B 160400 160200 160000", "C 151000 150500 150000", Due.F2, F2_TWIN);
        for (int lens = 0; lens < 3; lens++) {
            DUE.due("P17 T is 0, lens " + lens, desk.tripletPower(0, 1, 2, 10000, lens), AchromatDesk.NOTHING);
            DUE.due("P17 T is 0 of 0, lens " + lens, desk.tripletPower(2, 1, 0, 0, lens), AchromatDesk.NOTHING);
            DUE.due("P17 twins, lens " + lens, desk.tripletPower(0, 3, 4, 1, lens), AchromatDesk.NOTHING);
        }
        DUE.due("P18 without those of T 0", desk.bestTriplet(), 203);
    }

    /** As many glasses as before, and the first of them the same, but another answer to all. */
    private static void anExchangedGlass() {
        CountedDesk desk = Due.deskWith(Due.BK7, Due.LAK9, Due.SF10);
        ranking(desk, false, 102, 2, 100);
        ranking(desk, true, 102, 2, 100);
        DUE.due("P17 with SF10", desk.tripletPower(0, 1, 2, 10000, 1), 65411);
        DUE.due("P6 removeGlass(2)", desk.removeGlass(2), 2);
        DUE.due("P5 addGlass()", Due.add(desk, Due.FK51), 2);
        ranking(desk, false, 201, 200, 100);
        ranking(desk, true, 200, 201, 100);
        DUE.due("P17 with FK51", desk.tripletPower(0, 1, 2, 10000, 1), -29207);
    }
}
