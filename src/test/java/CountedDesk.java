/**
 * A desk for the tests that counts its calls, because the document says nothing of an object behind
 * its 512th call, and that holds each answer to the section on errors: no answer but a digest is
 * below -9000000000000000000 unless it is one of the eight codes.
 */
final class CountedDesk {
    static final int CALLS = 512;
    private static final long LEAST_ANSWER = -9000000000000000000L;

    private final AchromatDesk desk = new AchromatDesk();
    private int calls;

    int callsLeft() {
        return CALLS - calls;
    }

    private AchromatDesk next() {
        calls++;
        if (calls > CALLS) {
            throw new IllegalStateException("the test itself asks a desk more than 512 times");
        }
        return desk;
    }

    private static long held(long answer) {
        if (answer < LEAST_ANSWER && (answer < AchromatDesk.NOTHING || answer > AchromatDesk.OUT_OF_RANGE)) {
            throw new IllegalStateException("neither an answer nor an error code: " + answer);
        }
        return answer;
    }

    long append(int ch) {
        return held(next().append(ch));
    }

    long clearBuffer() {
        return held(next().clearBuffer());
    }

    long errorPosition() {
        return held(next().errorPosition());
    }

    long addGlass() {
        return held(next().addGlass());
    }

    long removeGlass(int glass) {
        return held(next().removeGlass(glass));
    }

    long glassCount() {
        return held(next().glassCount());
    }

    long index(int glass, int colour) {
        return held(next().index(glass, colour));
    }

    long placeByName(int glass) {
        return held(next().placeByName(glass));
    }

    long abbe(int glass) {
        return held(next().abbe(glass));
    }

    long partial(int glass) {
        return held(next().partial(glass));
    }

    long glassWithAbbe(int value) {
        return held(next().glassWithAbbe(value));
    }

    long doubletPower(int first, int second, int power, int lens) {
        return held(next().doubletPower(first, second, power, lens));
    }

    long secondarySpectrum(int first, int second, int power) {
        return held(next().secondarySpectrum(first, second, power));
    }

    long doubletAt(boolean byStrain, int place) {
        return held(next().doubletAt(byStrain, place));
    }

    long doubletCount() {
        return held(next().doubletCount());
    }

    long tripletPower(int first, int second, int third, int power, int lens) {
        return held(next().tripletPower(first, second, third, power, lens));
    }

    long bestTriplet() {
        return held(next().bestTriplet());
    }

    long addLens(int glass, int power) {
        return held(next().addLens(glass, power));
    }

    long removeLens(int lens) {
        return held(next().removeLens(lens));
    }

    long lensCount() {
        return held(next().lensCount());
    }

    long systemPower(int colour) {
        return held(next().systemPower(colour));
    }

    long balancePower(int glass) {
        return held(next().balancePower(glass));
    }

    long findWrongGlass(long measuredF, long measuredD, long measuredC) {
        return held(next().findWrongGlass(measuredF, measuredD, measuredC));
    }

    long addPlate(int radius) {
        return held(next().addPlate(radius));
    }

    long plateCount() {
        return held(next().plateCount());
    }

    long nearestPlate(int radius) {
        return held(next().nearestPlate(radius));
    }

    long bestSurfaces(int lens) {
        return held(next().bestSurfaces(lens));
    }

    long surfacePower(int glass, int choice) {
        return held(next().surfacePower(glass, choice));
    }

    long digest() {
        return next().digest();
    }
}
