import java.util.function.ToLongFunction;

/** A call that only asks changes nothing: what follows is answered as on a desk without the call. */
final class QuestionTest {
    private static final Due DUE = new Due();
    private static final Twins RICH = new Twins(DUE, Desks::rich);
    private static final Twins FULL = new Twins(DUE, Desks::full);
    private static final Twins NEW = new Twins(DUE, CountedDesk::new);

    public static void main(String[] args) {
        aNewDesk();
        aRichDesk();
        aFullDesk();
        askedOverAndOver();
        DUE.end();
    }

    private static void rich(String call, ToLongFunction<CountedDesk> asked, long answer) {
        RICH.unchanged(call, asked, answer);
    }

    private static void aNewDesk() {
        NEW.unchanged("P3 clearBuffer() of a new desk", CountedDesk::clearBuffer, 0);
        NEW.unchanged("P4 errorPosition() of a new desk", CountedDesk::errorPosition, 0);
        NEW.unchanged("P22 systemPower(0) of a new desk", desk -> desk.systemPower(0), 0);
        NEW.unchanged("P30 digest() of a new desk", CountedDesk::digest, 5283485657078775671L);
    }

    private static void aRichDesk() {
        rich("P4 errorPosition()", CountedDesk::errorPosition, 4);
        rich("P7 glassCount()", CountedDesk::glassCount, 5);
        rich("P8 index(4, 2)", desk -> desk.index(4, 2), 148480);
        rich("P9 placeByName(4)", desk -> desk.placeByName(4), 2);
        rich("P10 abbe(0)", desk -> desk.abbe(0), 64119);
        rich("P11 partial(0)", desk -> desk.partial(0), 69230);
        rich("P12 glassWithAbbe(84472)", desk -> desk.glassWithAbbe(84472), 4);
        rich("P13 doubletPower(0, 1, 1000, 1)", desk -> desk.doubletPower(0, 1, 1000, 1), -1315687);
        rich("P14 secondarySpectrum(0, 1, 1000)", desk -> desk.secondarySpectrum(0, 1, 1000), -545175);
        rich("P15 doubletAt(false, 9)", desk -> desk.doubletAt(false, 9), 300);
        rich("P15 doubletAt(true, 0)", desk -> desk.doubletAt(true, 0), 402);
        rich("P16 doubletCount()", CountedDesk::doubletCount, 10);
        rich("P17 tripletPower(0, 1, 2, 10000, 1)", desk -> desk.tripletPower(0, 1, 2, 10000, 1), 501740);
        rich("P18 bestTriplet()", CountedDesk::bestTriplet, 204);
        rich("P21 lensCount()", CountedDesk::lensCount, 3);
        rich("P22 systemPower(2)", desk -> desk.systemPower(2), 3114981744L);
        rich("P24 findWrongGlass", desk -> desk.findWrongGlass(5308000520L, 5169219383L, 5113143509L), 2);
        rich("P26 plateCount()", CountedDesk::plateCount, 4);
        rich("P27 nearestPlate(90000)", desk -> desk.nearestPlate(90000), 0);
        rich("P28 bestSurfaces(0)", desk -> desk.bestSurfaces(0), 20);
        rich("P29 surfacePower(0, 1)", desk -> desk.surfacePower(0, 1), 12920000);
        rich("P30 digest()", CountedDesk::digest, -3159568912972595622L);
    }

    private static void aFullDesk() {
        FULL.unchanged("P15 doubletAt(true, 189) of 20 glasses", desk -> desk.doubletAt(true, 189), 1200);
        FULL.unchanged("P18 bestTriplet() of 20 glasses", CountedDesk::bestTriplet, 20810);
        FULL.unchanged("P24 of 8 lenses",
            desk -> desk.findWrongGlass(6945703426L, 3580245000L, 4336435716L), 400);
        FULL.unchanged("P28 bestSurfaces(7) of 16 plates", desk -> desk.bestSurfaces(7), 9111);
        FULL.unchanged("P30 digest() of a full desk", CountedDesk::digest, -8024661616569125898L);
    }

    /** A question gets the same answer up to the 512th call. */
    private static void askedOverAndOver() {
        over(Desks.rich(), "P4 errorPosition()", CountedDesk::errorPosition, 4);
        over(Desks.rich(), "P9 placeByName(4)", desk -> desk.placeByName(4), 2);
        over(Desks.rich(), "P15 doubletAt(false, 9)", desk -> desk.doubletAt(false, 9), 300);
        over(Desks.rich(), "P16 doubletCount()", CountedDesk::doubletCount, 10);
        over(Desks.rich(), "P18 bestTriplet()", CountedDesk::bestTriplet, 204);
        over(Desks.rich(), "P24 findWrongGlass",
            desk -> desk.findWrongGlass(5308000520L, 5169219383L, 5113143509L), 2);
        over(Desks.rich(), "P28 bestSurfaces(0)", desk -> desk.bestSurfaces(0), 20);
        over(Desks.rich(), "P30 digest()", CountedDesk::digest, -3159568912972595622L);
        over(new CountedDesk(), "P30 digest() of a new desk", CountedDesk::digest, 5283485657078775671L);
    }

    private static void over(CountedDesk desk, String call, ToLongFunction<CountedDesk> asked, long answer) {
        while (desk.callsLeft() > 0) {
            DUE.due(call + ", with " + desk.callsLeft() + " calls left", asked.applyAsLong(desk), answer);
        }
    }
}
