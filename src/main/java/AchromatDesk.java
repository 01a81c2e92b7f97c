/**
 * A design toolkit for achromatic thin lenses: a catalogue of glasses, doublets and triplets,
 * a system of thin lenses in contact, test plates, and a search for a wrong glass.
 *
 * The letters A, B, D, E, X and T are those of the document.
 */
public final class AchromatDesk {
    public static final long OUT_OF_RANGE = -9000000000000000001L;
    public static final long NO_SUCH_GLASS = -9000000000000000002L;
    public static final long NO_SUCH_LENS = -9000000000000000003L;
    public static final long FULL = -9000000000000000004L;
    public static final long INVALID_GLASS = -9000000000000000005L;
    public static final long DUPLICATE = -9000000000000000006L;
    public static final long IN_USE = -9000000000000000007L;
    public static final long NOTHING = -9000000000000000008L;

    private static final int BUFFER_LIMIT = 28;
    private static final int GLASS_LIMIT = 20;
    private static final int LENS_LIMIT = 8;
    private static final int PLATE_LIMIT = 16;
    // The E of (j, i) is minus the E of (i, j), so at most one of the two is ranked.
    private static final int DOUBLET_LIMIT = GLASS_LIMIT * (GLASS_LIMIT - 1) / 2;

    private static final int COLOUR_F = 0;
    private static final int COLOUR_D = 1;
    private static final int COLOUR_C = 2;

    private static final int DESIGN_POWER_LIMIT = 10000;
    private static final int LENS_POWER_LIMIT = 10000000;
    private static final long MEASURED_LIMIT = 1000000000000L;
    private static final int DIGEST_PLACES = 4;

    private final GlassText buffer;
    private final Catalogue glasses;
    private final DoubletRanking doublets;
    private final LensSystem system;
    private final PlateSet plates;

    public AchromatDesk() {
        buffer = new GlassText();
        glasses = new Catalogue();
        doublets = new DoubletRanking();
        system = new LensSystem();
        plates = new PlateSet();
    }

    // ---- catalogue

    public long append(int ch) {
        if (ch < 32 || ch > 126) {
            return OUT_OF_RANGE;
        }
        if (buffer.length == BUFFER_LIMIT) {
            return FULL;
        }
        buffer.add(ch);
        return buffer.length;
    }

    public long clearBuffer() {
        int before = buffer.length;
        buffer.empty();
        return before;
    }

    public long errorPosition() {
        return buffer.firstFault();
    }

    public long addGlass() {
        if (!buffer.isComplete()) {
            return INVALID_GLASS;
        }
        int indexF = buffer.number(0);
        int indexD = buffer.number(1);
        int indexC = buffer.number(2);
        if (!areGlassIndices(indexF, indexD, indexC)) {
            return OUT_OF_RANGE;
        }
        if (glasses.count == GLASS_LIMIT) {
            return FULL;
        }
        long name = buffer.nameKey();
        if (glasses.hasName(name)) {
            return DUPLICATE;
        }
        glasses.add(name, indexF, indexD, indexC);
        buffer.empty();
        return glasses.count - 1;
    }

    public long removeGlass(int glass) {
        if (!glasses.has(glass)) {
            return NO_SUCH_GLASS;
        }
        if (system.uses(glass)) {
            return IN_USE;
        }
        glasses.remove(glass);
        system.closeGapAt(glass);
        return glasses.count;
    }

    public long glassCount() {
        return glasses.count;
    }

    public long index(int glass, int colour) {
        if (!glasses.has(glass)) {
            return NO_SUCH_GLASS;
        }
        if (!isColour(colour)) {
            return OUT_OF_RANGE;
        }
        return glasses.indexFor(glass, colour);
    }

    public long placeByName(int glass) {
        return glasses.has(glass) ? glasses.namesBefore(glass) : NO_SUCH_GLASS;
    }

    public long abbe(int glass) {
        return glasses.has(glass) ? glasses.abbeNumber(glass) : NO_SUCH_GLASS;
    }

    public long partial(int glass) {
        if (!glasses.has(glass)) {
            return NO_SUCH_GLASS;
        }
        return floorQuotient(100000 * glasses.valueD(glass), glasses.valueB(glass));
    }

    public long glassWithAbbe(int value) {
        int found = glasses.leastAbbeFrom(value);
        return found < 0 ? NOTHING : found;
    }

    // ---- doublets and triplets

    public long doubletPower(int first, int second, int power, int lens) {
        if (!glasses.has(first) || !glasses.has(second)) {
            return NO_SUCH_GLASS;
        }
        if (!isDesignPower(power) || lens < 0 || lens > 1) {
            return OUT_OF_RANGE;
        }
        long divisor = glasses.valueE(first, second);
        if (divisor == 0) {
            return NOTHING;
        }
        long share = lens == 0
            ? glasses.valueA(first) * glasses.valueB(second)
            : -glasses.valueA(second) * glasses.valueB(first);
        return floorQuotient(1000L * power * share, divisor);
    }

    public long secondarySpectrum(int first, int second, int power) {
        if (!glasses.has(first) || !glasses.has(second)) {
            return NO_SUCH_GLASS;
        }
        if (!isDesignPower(power)) {
            return OUT_OF_RANGE;
        }
        long divisor = glasses.valueE(first, second);
        if (divisor == 0) {
            return NOTHING;
        }
        return floorQuotient(1000000L * power * glasses.valueX(second, first), divisor);
    }

    public long doubletAt(boolean byStrain, int place) {
        doublets.collect(glasses);
        if (place < 0 || place >= doublets.count) {
            return NOTHING;
        }
        doublets.rank(byStrain);
        return doublets.codeAt(place);
    }

    public long doubletCount() {
        doublets.collect(glasses);
        return doublets.count;
    }

    public long tripletPower(int first, int second, int third, int power, int lens) {
        if (!glasses.has(first) || !glasses.has(second) || !glasses.has(third)) {
            return NO_SUCH_GLASS;
        }
        if (first == second || second == third || third == first) {
            return DUPLICATE;
        }
        if (!isDesignPower(power) || lens < 0 || lens > 2) {
            return OUT_OF_RANGE;
        }
        long firstShare = glasses.tripletShare(first, second, third);
        long secondShare = glasses.tripletShare(second, third, first);
        long thirdShare = glasses.tripletShare(third, first, second);
        long divisor = firstShare + secondShare + thirdShare;
        if (divisor == 0) {
            return NOTHING;
        }
        long share = lens == 0 ? firstShare : lens == 1 ? secondShare : thirdShare;
        return floorQuotient(power * share, divisor);
    }

    public long bestTriplet() {
        long best = NOTHING;
        long least = 0;
        for (int i = 0; i < glasses.count; i++) {
            for (int j = i + 1; j < glasses.count; j++) {
                for (int k = j + 1; k < glasses.count; k++) {
                    long greatest = greatestTripletPower(i, j, k);
                    if (greatest >= 0 && (best == NOTHING || greatest < least)) {
                        best = 10000 * i + 100 * j + k;
                        least = greatest;
                    }
                }
            }
        }
        return best;
    }

    // ---- lens system

    public long addLens(int glass, int power) {
        if (!glasses.has(glass)) {
            return NO_SUCH_GLASS;
        }
        if (power < -LENS_POWER_LIMIT || power > LENS_POWER_LIMIT) {
            return OUT_OF_RANGE;
        }
        if (system.count == LENS_LIMIT) {
            return FULL;
        }
        system.add(glass, power);
        return system.count - 1;
    }

    public long removeLens(int lens) {
        if (!system.has(lens)) {
            return NO_SUCH_LENS;
        }
        system.remove(lens);
        return system.count;
    }

    public long lensCount() {
        return system.count;
    }

    public long systemPower(int colour) {
        return isColour(colour) ? system.powerFor(colour, glasses) : OUT_OF_RANGE;
    }

    public long balancePower(int glass) {
        if (!glasses.has(glass)) {
            return NO_SUCH_GLASS;
        }
        long error = system.powerFor(COLOUR_F, glasses) - system.powerFor(COLOUR_C, glasses);
        return floorQuotient(-error * glasses.valueA(glass), 1000 * glasses.valueB(glass));
    }

    public long findWrongGlass(long measuredF, long measuredD, long measuredC) {
        if (!isMeasurable(measuredF) || !isMeasurable(measuredD) || !isMeasurable(measuredC)) {
            return OUT_OF_RANGE;
        }
        long excessF = system.powerFor(COLOUR_F, glasses) - measuredF;
        long excessD = system.powerFor(COLOUR_D, glasses) - measuredD;
        long excessC = system.powerFor(COLOUR_C, glasses) - measuredC;
        long best = NOTHING;
        long leastMiss = 0;
        for (int lens = 0; lens < system.count; lens++) {
            for (int glass = 0; glass < glasses.count; glass++) {
                long miss = missWith(lens, glass, excessF, excessD, excessC);
                boolean isOther = glass != system.glassOf(lens);
                if (isOther && (best == NOTHING || miss < leastMiss)) {
                    best = 100 * lens + glass;
                    leastMiss = miss;
                }
            }
        }
        return best;
    }

    // ---- test plates

    public long addPlate(int radius) {
        if (radius < 1000 || radius > 1000000) {
            return OUT_OF_RANGE;
        }
        if (plates.hasRadius(radius)) {
            return DUPLICATE;
        }
        if (plates.count == PLATE_LIMIT) {
            return FULL;
        }
        plates.add(radius);
        return plates.count - 1;
    }

    public long plateCount() {
        return plates.count;
    }

    public long nearestPlate(int radius) {
        int found = plates.nearestTo(radius);
        return found < 0 ? NOTHING : found;
    }

    public long bestSurfaces(int lens) {
        if (!system.has(lens)) {
            return NO_SUCH_LENS;
        }
        long valueA = glasses.valueA(system.glassOf(lens));
        long wanted = system.powerOf(lens);
        long best = NOTHING;
        long leastGap = 0;
        // A surface is 2 * plate, plus 1 for the minus sign: this counts in the order of the ties.
        for (int front = 0; front < 2 * plates.count; front++) {
            for (int back = 0; back < 2 * plates.count; back++) {
                long gap = front == back ? -1 : Math.abs(powerBetween(valueA, front, back) - wanted);
                if (gap >= 0 && (best == NOTHING || gap < leastGap)) {
                    best = 1000 * (front / 2) + 10 * (back / 2) + 2 * (front % 2) + back % 2;
                    leastGap = gap;
                }
            }
        }
        return best;
    }

    public long surfacePower(int glass, int choice) {
        if (!glasses.has(glass)) {
            return NO_SUCH_GLASS;
        }
        if (choice < 0 || choice % 10 > 3) {
            return OUT_OF_RANGE;
        }
        int frontPlate = choice / 1000;
        int backPlate = choice / 10 % 100;
        if (!plates.has(frontPlate) || !plates.has(backPlate)) {
            return OUT_OF_RANGE;
        }
        int front = 2 * frontPlate + choice % 10 / 2;
        int back = 2 * backPlate + choice % 2;
        // Plates differ in their radii, so equal radii mean equal surfaces.
        return front == back ? OUT_OF_RANGE : powerBetween(glasses.valueA(glass), front, back);
    }

    public long digest() {
        long hash = 1831;
        hash = withGlasses(hash);
        hash = withDesigns(hash);
        hash = withLenses(hash);
        hash = withPlates(hash);
        long wrong = findWrongGlass(
            systemPower(COLOUR_F), systemPower(COLOUR_D), systemPower(COLOUR_C));
        hash = mixed(hash, wrong);
        return withBuffer(hash);
    }

    // ---- parts of the calls above

    private static boolean isColour(int colour) {
        return colour >= COLOUR_F && colour <= COLOUR_C;
    }

    private static boolean isDesignPower(int power) {
        return power >= -DESIGN_POWER_LIMIT && power <= DESIGN_POWER_LIMIT;
    }

    private static boolean isMeasurable(long measured) {
        return measured >= -MEASURED_LIMIT && measured <= MEASURED_LIMIT;
    }

    private static boolean areGlassIndices(int indexF, int indexD, int indexC) {
        return 130000 <= indexC && indexC < indexD && indexD < indexF && indexF <= 230000
            && indexF - indexC <= 9999;
    }

    /** No caller has a divisor of 0; the guard makes that plain here, whatever the caller is. */
    private static long floorQuotient(long dividend, long divisor) {
        return divisor == 0 ? 0 : Math.floorDiv(dividend, divisor);
    }

    /** The greatest absolute power that bestTriplet compares, or -1 where T is 0. */
    private long greatestTripletPower(int i, int j, int k) {
        long firstShare = glasses.tripletShare(i, j, k);
        long secondShare = glasses.tripletShare(j, k, i);
        long thirdShare = glasses.tripletShare(k, i, j);
        long divisor = firstShare + secondShare + thirdShare;
        if (divisor == 0) {
            return -1;
        }
        long others = Math.max(absolutePower(secondShare, divisor), absolutePower(thirdShare, divisor));
        return Math.max(absolutePower(firstShare, divisor), others);
    }

    /** The power is rounded down before its sign goes: bestTriplet compares rounded powers. */
    private static long absolutePower(long share, long divisor) {
        return Math.abs(floorQuotient(DESIGN_POWER_LIMIT * share, divisor));
    }

    private long missWith(int lens, int glass, long excessF, long excessD, long excessC) {
        return Math.abs(excessF + system.changeWith(lens, glass, COLOUR_F, glasses))
            + Math.abs(excessD + system.changeWith(lens, glass, COLOUR_D, glasses))
            + Math.abs(excessC + system.changeWith(lens, glass, COLOUR_C, glasses));
    }

    private long powerBetween(long valueA, int front, int back) {
        long r = plates.signedRadius(front);
        long s = plates.signedRadius(back);
        return floorQuotient(valueA * 10000000 * (s - r), r * s);
    }

    private static long mixed(long hash, long value) {
        return 31 * hash + value;
    }

    private long withGlasses(long start) {
        long hash = mixed(start, glasses.count);
        for (int glass = 0; glass < glasses.count; glass++) {
            for (int colour = COLOUR_F; colour <= COLOUR_C; colour++) {
                hash = mixed(hash, index(glass, colour));
            }
            hash = mixed(hash, placeByName(glass));
            hash = mixed(hash, abbe(glass));
            hash = mixed(hash, partial(glass));
            hash = mixed(hash, balancePower(glass));
        }
        return hash;
    }

    private long withDesigns(long start) {
        long hash = mixed(start, doubletCount());
        for (int place = 0; place < DIGEST_PLACES; place++) {
            hash = mixed(hash, doubletAt(false, place));
            hash = mixed(hash, doubletAt(true, place));
        }
        return mixed(hash, bestTriplet());
    }

    private long withLenses(long start) {
        long hash = mixed(start, system.count);
        for (int lens = 0; lens < system.count; lens++) {
            hash = mixed(hash, system.glassOf(lens));
            hash = mixed(hash, system.powerOf(lens));
            hash = mixed(hash, bestSurfaces(lens));
        }
        for (int colour = COLOUR_F; colour <= COLOUR_C; colour++) {
            hash = mixed(hash, systemPower(colour));
        }
        return hash;
    }

    private long withPlates(long start) {
        long hash = mixed(start, plates.count);
        for (int plate = 0; plate < plates.count; plate++) {
            hash = mixed(hash, plates.signedRadius(2 * plate));
        }
        return hash;
    }

    private long withBuffer(long start) {
        long hash = mixed(start, buffer.length);
        for (int at = 0; at < buffer.length; at++) {
            hash = mixed(hash, buffer.codeAt(at));
        }
        return hash;
    }

    /** The input buffer, read as a glass: a name, then three times a blank and a number. */
    private static final class GlassText {
        private static final int NAME_LIMIT = 6;
        private static final int DIGITS = 6;
        // A blank and the digits behind it.
        private static final int GROUP = DIGITS + 1;
        private static final int GROUPS = 3;

        private final int[] codes = new int[BUFFER_LIMIT];
        private int length;

        void add(int code) {
            if (length < BUFFER_LIMIT) {
                codes[length] = code;
                length++;
            }
        }

        void empty() {
            length = 0;
        }

        int codeAt(int at) {
            return at >= 0 && at < length ? codes[at] : 0;
        }

        int firstFault() {
            int nameLength = nameLength();
            if (nameLength == 0) {
                return 0;
            }
            for (int at = nameLength; at < length; at++) {
                if (!isAllowedBehindName(at - nameLength, codes[at])) {
                    return at;
                }
            }
            return length;
        }

        boolean isComplete() {
            int nameLength = nameLength();
            return nameLength > 0 && length == nameLength + GROUPS * GROUP && firstFault() == length;
        }

        int number(int place) {
            int start = nameLength() + place * GROUP + 1;
            int value = 0;
            for (int at = start; at < start + DIGITS; at++) {
                value = 10 * value + codeAt(at) - '0';
            }
            return value;
        }

        /** The name as one number, filled up with zeros, so that names compare as their keys do. */
        long nameKey() {
            int nameLength = nameLength();
            long key = 0;
            for (int at = 0; at < NAME_LIMIT; at++) {
                key = 128 * key + (at < nameLength ? codes[at] : 0);
            }
            return key;
        }

        private int nameLength() {
            int end = Math.min(length, NAME_LIMIT);
            for (int at = 0; at < end; at++) {
                boolean isNameSign = isLetter(codes[at]) || at > 0 && isDigit(codes[at]);
                if (!isNameSign) {
                    return at;
                }
            }
            return end;
        }

        private static boolean isAllowedBehindName(int offset, int code) {
            if (offset >= GROUPS * GROUP) {
                return false;
            }
            int placeInGroup = offset % GROUP;
            if (placeInGroup == 0) {
                return code == ' ';
            }
            return isDigit(code) && (placeInGroup > 1 || code != '0');
        }

        private static boolean isLetter(int code) {
            return code >= 'A' && code <= 'Z';
        }

        private static boolean isDigit(int code) {
            return code >= '0' && code <= '9';
        }
    }

    /** The glasses, with the values of the document that rest on glasses alone. */
    private static final class Catalogue {
        private final long[] nameKeys = new long[GLASS_LIMIT];
        private final int[] indicesF = new int[GLASS_LIMIT];
        private final int[] indicesD = new int[GLASS_LIMIT];
        private final int[] indicesC = new int[GLASS_LIMIT];
        private int count;

        boolean has(int glass) {
            return glass >= 0 && glass < count;
        }

        boolean hasName(long nameKey) {
            for (int glass = 0; glass < count; glass++) {
                if (nameKeys[glass] == nameKey) {
                    return true;
                }
            }
            return false;
        }

        void add(long nameKey, int indexF, int indexD, int indexC) {
            if (count < GLASS_LIMIT) {
                nameKeys[count] = nameKey;
                indicesF[count] = indexF;
                indicesD[count] = indexD;
                indicesC[count] = indexC;
                count++;
            }
        }

        void remove(int glass) {
            if (has(glass)) {
                for (int later = glass + 1; later < count; later++) {
                    nameKeys[later - 1] = nameKeys[later];
                    indicesF[later - 1] = indicesF[later];
                    indicesD[later - 1] = indicesD[later];
                    indicesC[later - 1] = indicesC[later];
                }
                count--;
            }
        }

        long indexFor(int glass, int colour) {
            switch (colour) {
                case COLOUR_F:
                    return indicesF[glass];
                case COLOUR_D:
                    return indicesD[glass];
                default:
                    return indicesC[glass];
            }
        }

        int namesBefore(int glass) {
            int before = 0;
            for (int other = 0; other < count; other++) {
                if (nameKeys[other] < nameKeys[glass]) {
                    before++;
                }
            }
            return before;
        }

        long abbeNumber(int glass) {
            return floorQuotient(1000 * valueA(glass), valueB(glass));
        }

        int leastAbbeFrom(int bound) {
            int found = -1;
            long least = 0;
            for (int glass = 0; glass < count; glass++) {
                long number = abbeNumber(glass);
                if (number >= bound && (found < 0 || number < least)) {
                    found = glass;
                    least = number;
                }
            }
            return found;
        }

        long valueA(int glass) {
            return indicesD[glass] - 100000;
        }

        long valueB(int glass) {
            return indicesF[glass] - indicesC[glass];
        }

        long valueD(int glass) {
            return indicesF[glass] - indicesD[glass];
        }

        long valueE(int i, int j) {
            return valueA(i) * valueB(j) - valueA(j) * valueB(i);
        }

        /** The X of the third glass of a triplet i, j, k, which does not depend on k. */
        long valueX(int i, int j) {
            return valueB(i) * valueD(j) - valueB(j) * valueD(i);
        }

        /** A * X of the first of three glasses; turning the three round gives the others'. */
        long tripletShare(int i, int j, int k) {
            return valueA(i) * valueX(j, k);
        }
    }

    /**
     * The doublets with E greater than 0 and their order by a badness. Both are made anew for each
     * question, in the same rows, so that nothing has to be kept true when a glass comes or goes.
     */
    private static final class DoubletRanking {
        private final int[] codes = new int[DOUBLET_LIMIT];
        private final long[] divisors = new long[DOUBLET_LIMIT];
        private final long[] spectra = new long[DOUBLET_LIMIT];
        private final long[] strains = new long[DOUBLET_LIMIT];
        private final int[] order = new int[DOUBLET_LIMIT];
        private int count;

        void collect(Catalogue glasses) {
            count = 0;
            for (int first = 0; first < glasses.count; first++) {
                for (int second = 0; second < glasses.count; second++) {
                    if (glasses.valueE(first, second) > 0 && count < DOUBLET_LIMIT) {
                        keep(first, second, glasses);
                    }
                }
            }
        }

        /** Equal doublets stay in the order in which they were collected: by first, then by second. */
        void rank(boolean byStrain) {
            for (int slot = 0; slot < count; slot++) {
                int place = placeAmong(slot, byStrain);
                for (int at = slot; at > place; at--) {
                    order[at] = order[at - 1];
                }
                order[place] = slot;
            }
        }

        int codeAt(int place) {
            return codes[order[place]];
        }

        private void keep(int first, int second, Catalogue glasses) {
            codes[count] = 100 * first + second;
            divisors[count] = glasses.valueE(first, second);
            spectra[count] = Math.abs(glasses.valueX(second, first));
            strains[count] = glasses.valueA(first) * glasses.valueB(second)
                + glasses.valueA(second) * glasses.valueB(first);
            count++;
        }

        /** The place of a doublet among those of the earlier slots, which are in order already. */
        private int placeAmong(int slot, boolean byStrain) {
            int low = 0;
            int high = slot;
            while (low < high) {
                int middle = (low + high) / 2;
                if (compareSlots(slot, order[middle], byStrain) < 0) {
                    high = middle;
                } else {
                    low = middle + 1;
                }
            }
            return low;
        }

        private int compareSlots(int one, int other, boolean byStrain) {
            // The divisors are greater than 0, so the fractions compare as these products do.
            int spectrum = Long.compare(
                spectra[one] * divisors[other], spectra[other] * divisors[one]);
            int strain = Long.compare(
                strains[one] * divisors[other], strains[other] * divisors[one]);
            if (byStrain) {
                return strain != 0 ? strain : spectrum;
            }
            return spectrum != 0 ? spectrum : strain;
        }
    }

    /** The lenses in contact; each knows its glass by the glass's number. */
    private static final class LensSystem {
        private final int[] glassNumbers = new int[LENS_LIMIT];
        private final int[] powers = new int[LENS_LIMIT];
        private int count;

        boolean has(int lens) {
            return lens >= 0 && lens < count;
        }

        boolean uses(int glass) {
            for (int lens = 0; lens < count; lens++) {
                if (glassNumbers[lens] == glass) {
                    return true;
                }
            }
            return false;
        }

        void add(int glass, int power) {
            if (count < LENS_LIMIT) {
                glassNumbers[count] = glass;
                powers[count] = power;
                count++;
            }
        }

        void remove(int lens) {
            if (has(lens)) {
                for (int later = lens + 1; later < count; later++) {
                    glassNumbers[later - 1] = glassNumbers[later];
                    powers[later - 1] = powers[later];
                }
                count--;
            }
        }

        void closeGapAt(int glass) {
            for (int lens = 0; lens < count; lens++) {
                if (glassNumbers[lens] > glass) {
                    glassNumbers[lens]--;
                }
            }
        }

        int glassOf(int lens) {
            return glassNumbers[lens];
        }

        int powerOf(int lens) {
            return powers[lens];
        }

        long powerFor(int colour, Catalogue glasses) {
            long sum = 0;
            for (int lens = 0; lens < count; lens++) {
                sum += lensPower(lens, glassNumbers[lens], colour, glasses);
            }
            return sum;
        }

        /** What the system's power for a colour gains if a lens is made of a supposed glass. */
        long changeWith(int lens, int supposed, int colour, Catalogue glasses) {
            return lensPower(lens, supposed, colour, glasses)
                - lensPower(lens, glassNumbers[lens], colour, glasses);
        }

        private long lensPower(int lens, int supposed, int colour, Catalogue glasses) {
            long bending = glasses.indexFor(supposed, colour) - 100000;
            return floorQuotient(powers[lens] * 1000L * bending, glasses.valueA(glassNumbers[lens]));
        }
    }

    /** The test plates. A surface is 2 * plate for the radius as it is, 2 * plate + 1 for minus it. */
    private static final class PlateSet {
        private final int[] radii = new int[PLATE_LIMIT];
        private int count;

        boolean has(int plate) {
            return plate >= 0 && plate < count;
        }

        boolean hasRadius(int radius) {
            for (int plate = 0; plate < count; plate++) {
                if (radii[plate] == radius) {
                    return true;
                }
            }
            return false;
        }

        void add(int radius) {
            if (count < PLATE_LIMIT) {
                radii[count] = radius;
                count++;
            }
        }

        int nearestTo(int radius) {
            int found = -1;
            long leastGap = 0;
            for (int plate = 0; plate < count; plate++) {
                long gap = Math.abs((long) radii[plate] - radius);
                boolean isNearer = found < 0 || gap < leastGap
                    || gap == leastGap && radii[plate] < radii[found];
                if (isNearer) {
                    found = plate;
                    leastGap = gap;
                }
            }
            return found;
        }

        long signedRadius(int surface) {
            int radius = radii[surface / 2];
            return surface % 2 == 0 ? radius : -radius;
        }
    }
}
