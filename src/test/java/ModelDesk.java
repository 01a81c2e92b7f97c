import java.math.BigInteger;
import java.util.ArrayList;
import java.util.Comparator;
import java.util.List;
import java.util.regex.Matcher;
import java.util.regex.Pattern;

/**
 * A second reading of the document, written with the Java library and with exact integers of any
 * size, so that it shares no short cut with the program that it is compared with.
 */
final class ModelDesk {
    private static final Pattern GLASS = Pattern.compile(
        "([A-Z][A-Z0-9]{0,5}) ([1-9][0-9]{5}) ([1-9][0-9]{5}) ([1-9][0-9]{5})");

    private record Glass(String name, long f, long d, long c) {
        long n(int colour) {
            return List.of(f, d, c).get(colour);
        }

        BigInteger bigA() {
            return big(d - 100000);
        }

        BigInteger bigB() {
            return big(f - c);
        }

        BigInteger bigD() {
            return big(f - d);
        }
    }

    private record Lens(Glass glass, int power) {
    }

    private record Doublet(int first, int second, Fraction spectrum, Fraction strain) {
    }

    private record Fraction(BigInteger over, BigInteger under) implements Comparable<Fraction> {
        public int compareTo(Fraction other) {
            return over.multiply(other.under).compareTo(other.over.multiply(under));
        }
    }

    private String buffer = "";
    private final List<Glass> glasses = new ArrayList<>();
    private final List<Lens> lenses = new ArrayList<>();
    private final List<Integer> plates = new ArrayList<>();

    private static BigInteger big(long value) {
        return BigInteger.valueOf(value);
    }

    private static long floor(BigInteger over, BigInteger under) {
        BigInteger[] parts = over.divideAndRemainder(under);
        boolean below = parts[1].signum() * under.signum() < 0;
        return (below ? parts[0].subtract(BigInteger.ONE) : parts[0]).longValueExact();
    }

    private boolean noGlass(int glass) {
        return glass < 0 || glass >= glasses.size();
    }

    long append(int ch) {
        if (ch < 32 || ch > 126) {
            return AchromatDesk.OUT_OF_RANGE;
        }
        if (buffer.length() >= 28) {
            return AchromatDesk.FULL;
        }
        buffer += (char) ch;
        return buffer.length();
    }

    long clearBuffer() {
        int before = buffer.length();
        buffer = "";
        return before;
    }

    long errorPosition() {
        for (int end = 1; end <= buffer.length(); end++) {
            Matcher matcher = GLASS.matcher(buffer.substring(0, end));
            if (!matcher.matches() && !matcher.hitEnd()) {
                return end - 1;
            }
        }
        return buffer.length();
    }

    long addGlass() {
        Matcher matcher = GLASS.matcher(buffer);
        if (!matcher.matches()) {
            return AchromatDesk.INVALID_GLASS;
        }
        long f = Long.parseLong(matcher.group(2));
        long d = Long.parseLong(matcher.group(3));
        long c = Long.parseLong(matcher.group(4));
        if (c < 130000 || d <= c || f <= d || f > 230000 || f - c > 9999) {
            return AchromatDesk.OUT_OF_RANGE;
        }
        if (glasses.size() >= 20) {
            return AchromatDesk.FULL;
        }
        String name = matcher.group(1);
        if (glasses.stream().anyMatch(glass -> glass.name.equals(name))) {
            return AchromatDesk.DUPLICATE;
        }
        glasses.add(new Glass(name, f, d, c));
        buffer = "";
        return glasses.size() - 1;
    }

    long removeGlass(int glass) {
        if (noGlass(glass)) {
            return AchromatDesk.NO_SUCH_GLASS;
        }
        if (lenses.stream().anyMatch(lens -> lens.glass == glasses.get(glass))) {
            return AchromatDesk.IN_USE;
        }
        glasses.remove(glass);
        return glasses.size();
    }

    long glassCount() {
        return glasses.size();
    }

    long index(int glass, int colour) {
        if (noGlass(glass)) {
            return AchromatDesk.NO_SUCH_GLASS;
        }
        return colour < 0 || colour > 2 ? AchromatDesk.OUT_OF_RANGE : glasses.get(glass).n(colour);
    }

    long placeByName(int glass) {
        if (noGlass(glass)) {
            return AchromatDesk.NO_SUCH_GLASS;
        }
        List<String> names = new ArrayList<>(glasses.stream().map(Glass::name).toList());
        names.sort(Comparator.naturalOrder());
        return names.indexOf(glasses.get(glass).name);
    }

    long abbe(int glass) {
        if (noGlass(glass)) {
            return AchromatDesk.NO_SUCH_GLASS;
        }
        Glass g = glasses.get(glass);
        return floor(big(1000).multiply(g.bigA()), g.bigB());
    }

    long partial(int glass) {
        if (noGlass(glass)) {
            return AchromatDesk.NO_SUCH_GLASS;
        }
        Glass g = glasses.get(glass);
        return floor(big(100000).multiply(g.bigD()), g.bigB());
    }

    long glassWithAbbe(int value) {
        List<Integer> fit = new ArrayList<>();
        for (int glass = 0; glass < glasses.size(); glass++) {
            if (abbe(glass) >= value) {
                fit.add(glass);
            }
        }
        return fit.stream().min(Comparator.comparingLong(this::abbe)).map(Integer::longValue)
            .orElse(AchromatDesk.NOTHING);
    }

    private static BigInteger bigE(Glass i, Glass j) {
        return i.bigA().multiply(j.bigB()).subtract(j.bigA().multiply(i.bigB()));
    }

    private static BigInteger spectrumOver(Glass i, Glass j) {
        return i.bigD().multiply(j.bigB()).subtract(j.bigD().multiply(i.bigB()));
    }

    long doubletPower(int first, int second, int power, int lens) {
        if (noGlass(first) || noGlass(second)) {
            return AchromatDesk.NO_SUCH_GLASS;
        }
        if (power < -10000 || power > 10000 || lens < 0 || lens > 1) {
            return AchromatDesk.OUT_OF_RANGE;
        }
        Glass i = glasses.get(first);
        Glass j = glasses.get(second);
        BigInteger e = bigE(i, j);
        if (e.signum() == 0) {
            return AchromatDesk.NOTHING;
        }
        BigInteger over = lens == 0
            ? big(power).multiply(i.bigA()).multiply(j.bigB())
            : big(power).negate().multiply(j.bigA()).multiply(i.bigB());
        return floor(over.multiply(big(1000)), e);
    }

    long secondarySpectrum(int first, int second, int power) {
        if (noGlass(first) || noGlass(second)) {
            return AchromatDesk.NO_SUCH_GLASS;
        }
        if (power < -10000 || power > 10000) {
            return AchromatDesk.OUT_OF_RANGE;
        }
        Glass i = glasses.get(first);
        Glass j = glasses.get(second);
        BigInteger e = bigE(i, j);
        if (e.signum() == 0) {
            return AchromatDesk.NOTHING;
        }
        return floor(big(1000000).multiply(big(power)).multiply(spectrumOver(i, j)), e);
    }

    private List<Doublet> ranked(boolean byStrain) {
        List<Doublet> all = new ArrayList<>();
        for (int first = 0; first < glasses.size(); first++) {
            for (int second = 0; second < glasses.size(); second++) {
                Glass i = glasses.get(first);
                Glass j = glasses.get(second);
                BigInteger e = bigE(i, j);
                if (first != second && e.signum() > 0) {
                    BigInteger strainOver = i.bigA().multiply(j.bigB()).add(j.bigA().multiply(i.bigB()));
                    all.add(new Doublet(first, second, new Fraction(spectrumOver(i, j).abs(), e),
                        new Fraction(strainOver, e)));
                }
            }
        }
        Comparator<Doublet> spectrum = Comparator.comparing(Doublet::spectrum);
        Comparator<Doublet> strain = Comparator.comparing(Doublet::strain);
        Comparator<Doublet> chosen =
            byStrain ? strain.thenComparing(spectrum) : spectrum.thenComparing(strain);
        all.sort(chosen.thenComparing(Doublet::first).thenComparing(Doublet::second));
        return all;
    }

    long doubletAt(boolean byStrain, int place) {
        List<Doublet> all = ranked(byStrain);
        if (place < 0 || place >= all.size()) {
            return AchromatDesk.NOTHING;
        }
        return 100L * all.get(place).first + all.get(place).second;
    }

    long doubletCount() {
        return ranked(false).size();
    }

    private static BigInteger minor(Glass i, Glass j) {
        return i.bigB().multiply(j.bigD()).subtract(j.bigB().multiply(i.bigD()));
    }

    long tripletPower(int first, int second, int third, int power, int lens) {
        if (noGlass(first) || noGlass(second) || noGlass(third)) {
            return AchromatDesk.NO_SUCH_GLASS;
        }
        if (first == second || first == third || second == third) {
            return AchromatDesk.DUPLICATE;
        }
        if (power < -10000 || power > 10000 || lens < 0 || lens > 2) {
            return AchromatDesk.OUT_OF_RANGE;
        }
        Glass i = glasses.get(first);
        Glass j = glasses.get(second);
        Glass k = glasses.get(third);
        List<BigInteger> shares = List.of(
            i.bigA().multiply(minor(j, k)), j.bigA().multiply(minor(k, i)), k.bigA().multiply(minor(i, j)));
        BigInteger t = shares.get(0).add(shares.get(1)).add(shares.get(2));
        if (t.signum() == 0) {
            return AchromatDesk.NOTHING;
        }
        return floor(big(power).multiply(shares.get(lens)), t);
    }

    long bestTriplet() {
        long best = AchromatDesk.NOTHING;
        long least = Long.MAX_VALUE;
        for (int i = 0; i < glasses.size(); i++) {
            for (int j = i + 1; j < glasses.size(); j++) {
                for (int k = j + 1; k < glasses.size(); k++) {
                    long one = tripletPower(i, j, k, 10000, 0);
                    if (one == AchromatDesk.NOTHING) {
                        continue;
                    }
                    long two = tripletPower(i, j, k, 10000, 1);
                    long three = tripletPower(i, j, k, 10000, 2);
                    long greatest = Math.max(Math.abs(one), Math.max(Math.abs(two), Math.abs(three)));
                    if (greatest < least) {
                        least = greatest;
                        best = 10000L * i + 100L * j + k;
                    }
                }
            }
        }
        return best;
    }

    long addLens(int glass, int power) {
        if (noGlass(glass)) {
            return AchromatDesk.NO_SUCH_GLASS;
        }
        if (power < -10000000 || power > 10000000) {
            return AchromatDesk.OUT_OF_RANGE;
        }
        if (lenses.size() >= 8) {
            return AchromatDesk.FULL;
        }
        lenses.add(new Lens(glasses.get(glass), power));
        return lenses.size() - 1;
    }

    long removeLens(int lens) {
        if (lens < 0 || lens >= lenses.size()) {
            return AchromatDesk.NO_SUCH_LENS;
        }
        lenses.remove(lens);
        return lenses.size();
    }

    long lensCount() {
        return lenses.size();
    }

    private static long power(Lens lens, Glass made, int colour) {
        BigInteger over = big(lens.power).multiply(big(1000)).multiply(big(made.n(colour) - 100000));
        return floor(over, lens.glass.bigA());
    }

    long systemPower(int colour) {
        if (colour < 0 || colour > 2) {
            return AchromatDesk.OUT_OF_RANGE;
        }
        return lenses.stream().mapToLong(lens -> power(lens, lens.glass, colour)).sum();
    }

    long balancePower(int glass) {
        if (noGlass(glass)) {
            return AchromatDesk.NO_SUCH_GLASS;
        }
        Glass g = glasses.get(glass);
        BigInteger e = big(systemPower(0) - systemPower(2));
        return floor(e.negate().multiply(g.bigA()), big(1000).multiply(g.bigB()));
    }

    long findWrongGlass(long measuredF, long measuredD, long measuredC) {
        List<Long> measured = List.of(measuredF, measuredD, measuredC);
        if (measured.stream().anyMatch(m -> m < -1000000000000L || m > 1000000000000L)) {
            return AchromatDesk.OUT_OF_RANGE;
        }
        long best = AchromatDesk.NOTHING;
        long least = Long.MAX_VALUE;
        for (int wrong = 0; wrong < lenses.size(); wrong++) {
            for (int glass = 0; glass < glasses.size(); glass++) {
                Glass supposed = glasses.get(glass);
                if (lenses.get(wrong).glass == supposed) {
                    continue;
                }
                long miss = 0;
                for (int colour = 0; colour < 3; colour++) {
                    long sum = 0;
                    for (int lens = 0; lens < lenses.size(); lens++) {
                        Lens one = lenses.get(lens);
                        sum += power(one, lens == wrong ? supposed : one.glass, colour);
                    }
                    miss += Math.abs(sum - measured.get(colour));
                }
                if (miss < least) {
                    least = miss;
                    best = 100L * wrong + glass;
                }
            }
        }
        return best;
    }

    long addPlate(int radius) {
        if (radius < 1000 || radius > 1000000) {
            return AchromatDesk.OUT_OF_RANGE;
        }
        if (plates.contains(radius)) {
            return AchromatDesk.DUPLICATE;
        }
        if (plates.size() >= 16) {
            return AchromatDesk.FULL;
        }
        plates.add(radius);
        return plates.size() - 1;
    }

    long plateCount() {
        return plates.size();
    }

    long nearestPlate(int radius) {
        Comparator<Integer> near = Comparator.comparingLong(plate -> Math.abs((long) plate - radius));
        return plates.stream().min(near.thenComparing(Comparator.naturalOrder()))
            .map(plate -> (long) plates.indexOf(plate)).orElse(AchromatDesk.NOTHING);
    }

    private static long power(Glass glass, long r, long s) {
        return floor(glass.bigA().multiply(big(10000000)).multiply(big(s - r)), big(r).multiply(big(s)));
    }

    long bestSurfaces(int lens) {
        if (lens < 0 || lens >= lenses.size()) {
            return AchromatDesk.NO_SUCH_LENS;
        }
        long best = AchromatDesk.NOTHING;
        long least = Long.MAX_VALUE;
        for (int front = 0; front < plates.size(); front++) {
            for (int frontSign = 1; frontSign >= -1; frontSign -= 2) {
                for (int back = 0; back < plates.size(); back++) {
                    for (int backSign = 1; backSign >= -1; backSign -= 2) {
                        long r = frontSign * plates.get(front);
                        long s = backSign * plates.get(back);
                        if (r == s) {
                            continue;
                        }
                        long gap = Math.abs(power(lenses.get(lens).glass, r, s) - lenses.get(lens).power);
                        if (gap < least) {
                            least = gap;
                            best = 1000L * front + 10L * back + (r < 0 ? 2 : 0) + (s < 0 ? 1 : 0);
                        }
                    }
                }
            }
        }
        return best;
    }

    long surfacePower(int glass, int choice) {
        if (noGlass(glass)) {
            return AchromatDesk.NO_SUCH_GLASS;
        }
        if (choice < 0 || choice % 10 > 3) {
            return AchromatDesk.OUT_OF_RANGE;
        }
        int front = choice / 1000;
        int back = choice % 1000 / 10;
        if (front >= plates.size() || back >= plates.size()) {
            return AchromatDesk.OUT_OF_RANGE;
        }
        int signs = choice % 10;
        long r = signs >= 2 ? -plates.get(front) : plates.get(front);
        long s = signs == 1 || signs == 3 ? -plates.get(back) : plates.get(back);
        return r == s ? AchromatDesk.OUT_OF_RANGE : power(glasses.get(glass), r, s);
    }

    long digest() {
        List<Long> values = new ArrayList<>();
        values.add(glassCount());
        for (int glass = 0; glass < glasses.size(); glass++) {
            values.addAll(List.of(index(glass, 0), index(glass, 1), index(glass, 2)));
            values.addAll(List.of(placeByName(glass), abbe(glass), partial(glass), balancePower(glass)));
        }
        values.add(doubletCount());
        for (int place = 0; place <= 3; place++) {
            values.addAll(List.of(doubletAt(false, place), doubletAt(true, place)));
        }
        values.add(bestTriplet());
        values.add(lensCount());
        for (int lens = 0; lens < lenses.size(); lens++) {
            values.add((long) glasses.indexOf(lenses.get(lens).glass));
            values.add((long) lenses.get(lens).power);
            values.add(bestSurfaces(lens));
        }
        values.addAll(List.of(systemPower(0), systemPower(1), systemPower(2)));
        values.add(plateCount());
        plates.forEach(radius -> values.add((long) radius));
        values.add(findWrongGlass(systemPower(0), systemPower(1), systemPower(2)));
        values.add((long) buffer.length());
        buffer.chars().forEach(code -> values.add((long) code));
        long hash = 1831;
        for (long value : values) {
            hash = 31 * hash + value;
        }
        return hash;
    }
}
