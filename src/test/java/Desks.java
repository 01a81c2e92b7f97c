/** Desks that several tests begin with. */
final class Desks {
    // Names of one letter: to type 20 glasses takes 460 of the 512 calls that a desk answers.
    private static final String[] TWENTY = {
        "Q 173566 172949 172647", "A 183346 182181 181494", "Z 177504 176835 176548",
        "W 197176 195818 194968", "S 164537 163521 162883", "X 130002 130001 130000",
        "E 191982 189523 188445", "D 169857 169227 168962", "C 185424 183967 183341",
        "R 180399 178710 177627", "F 230000 229999 229998", "V 156574 155803 155465",
        "T 195183 194408 193994", "G 183545 182305 181729", "B 186452 185439 184962",
        "Y 139999 130001 130000", "H 189294 187356 186414", "N 162079 161434 161229",
        "U 149383 148778 148452", "J 230000 229999 220001"};
    private static final int[] EIGHT_GLASSES = {0, 19, 7, 12, 19, 5, 10, 15};
    private static final int[] EIGHT_POWERS = {
        10000000, -10000000, 1234567, -7654321, 0, 1, -1, 9999999};
    private static final int[] SIXTEEN = {
        1000, 1000000, 999999, 1001, 50000, 20000, 35001, 35000, 100000, 250000, 80000, 33333, 66666,
        125000, 500000, 400000};

    private Desks() {
    }

    /** Five glasses, three lenses, four plates and five signs in the buffer. */
    static CountedDesk rich() {
        CountedDesk desk = Due.deskWith(Due.BK7, Due.F2, Due.SF10, Due.LAK9, Due.FK51);
        desk.addLens(0, 5000000);
        desk.addLens(1, -2000000);
        desk.addLens(3, 123457);
        desk.addPlate(80000);
        desk.addPlate(100000);
        desk.addPlate(250000);
        desk.addPlate(33333);
        Due.type(desk, "K5 1~");
        return desk;
    }

    /** 20 glasses of which no two have an E of 0. The glasses 0 and 19 are the first and the last. */
    static CountedDesk twentyGlasses() {
        return Due.deskWith(TWENTY);
    }

    /** 20 glasses, 8 lenses and 16 plates; 28 calls are left. */
    static CountedDesk full() {
        CountedDesk desk = twentyGlasses();
        for (int lens = 0; lens < EIGHT_GLASSES.length; lens++) {
            desk.addLens(EIGHT_GLASSES[lens], EIGHT_POWERS[lens]);
        }
        for (int radius : SIXTEEN) {
            desk.addPlate(radius);
        }
        return desk;
    }

    /** 8 lenses of BK7 and 16 plates of 1000, 2000 .. 16000. */
    static CountedDesk fullOfLensesAndPlates() {
        CountedDesk desk = Due.deskWith(Due.BK7, Due.F2);
        for (int lens = 0; lens < 8; lens++) {
            desk.addLens(0, 1000 * lens);
        }
        for (int plate = 1; plate <= 16; plate++) {
            desk.addPlate(1000 * plate);
        }
        return desk;
    }
}
