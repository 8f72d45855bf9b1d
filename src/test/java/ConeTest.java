/** Promises 4 and 11: cone, about. */
final class ConeTest {
    public static void main(String[] args) {
        bandsAreFormed();
        gramsAreLaidByTaper();
        rangesOfACone();
        lotMustHaveSoMuch();
        thirteenthConeIsRefused();
        orderOfExceptions();
        aboutRefusesWhatIsNot();
        Check.end("ConeTest");
    }

    private static HatbandYard yardWith(int grams) {
        HatbandYard yard = new HatbandYard();
        Check.lotOf(yard, "beaver", grams);
        return yard;
    }

    private static void bandsAreFormed() {
        HatbandYard yard = yardWith(5000);
        Check.due("cone 0", yard.cone(0, 120, 2), 0);
        Check.due("cone 1", yard.cone(0, 500, 0), 1);
        Check.widths(yard, 0, 1200, 1050, 900, 750, 600, 450);
        for (int band = 0; band < 6; band++) {
            Check.due("height", yard.about(1, band, 1), 60);
        }
    }

    private static void gramsOfBands(int grams, int taper, int... want) {
        HatbandYard yard = yardWith(5000);
        yard.cone(0, grams, taper);
        for (int band = 0; band < 6; band++) {
            String which = grams + " by " + taper + ", band " + band;
            Check.due("grams of " + which, yard.about(0, band, 2), want[band]);
            int thick = want[band] * 100000 / ((1200 - 150 * band) * 60);
            Check.due("thickness of " + which, yard.about(0, band, 3), thick);
        }
        Check.due("what is left", yard.grams(0), 5000 - grams);
    }

    private static void gramsAreLaidByTaper() {
        gramsOfBands(120, 2, 15, 16, 18, 21, 24, 26);
        gramsOfBands(10, 0, 5, 1, 1, 1, 1, 1);
        gramsOfBands(10, 5, 3, 1, 1, 1, 2, 2);
        gramsOfBands(500, 0, 85, 83, 83, 83, 83, 83);
        gramsOfBands(500, 5, 39, 55, 74, 92, 111, 129);
        gramsOfBands(60, 0, 10, 10, 10, 10, 10, 10);
        gramsOfBands(101, 1, 16, 14, 16, 17, 18, 20);
        gramsOfBands(499, 3, 50, 61, 76, 90, 104, 118);
        gramsOfBands(333, 4, 30, 38, 49, 61, 72, 83);
    }

    private static void rangesOfACone() {
        HatbandYard yard = yardWith(5000);
        for (int grams : new int[] {Integer.MIN_VALUE, -1, 0, 9, 501, Integer.MAX_VALUE}) {
            Check.throwing(yard, "cone of " + grams, Check.ARGUMENT, () -> yard.cone(0, grams, 0));
        }
        for (int taper : new int[] {Integer.MIN_VALUE, -1, 6, Integer.MAX_VALUE}) {
            Check.throwing(yard, "cone by " + taper, Check.ARGUMENT, () -> yard.cone(0, 10, taper));
        }
        Check.due("10 by 0", yard.cone(0, 10, 0), 0);
        Check.due("500 by 5", yard.cone(0, 500, 5), 1);
        Check.due("grams of the lot", yard.grams(0), 4490);
    }

    private static void lotMustHaveSoMuch() {
        HatbandYard yard = yardWith(100);
        Check.throwing(yard, "101 of 100", Check.STATE, () -> yard.cone(0, 101, 0));
        Check.due("90 of 100", yard.cone(0, 90, 0), 0);
        Check.throwing(yard, "11 of 10", Check.STATE, () -> yard.cone(0, 11, 0));
        Check.due("10 of 10", yard.cone(0, 10, 0), 1);
        Check.throwing(yard, "10 of 0", Check.STATE, () -> yard.cone(0, 10, 0));
    }

    private static void thirteenthConeIsRefused() {
        HatbandYard yard = yardWith(5000);
        for (int cone = 0; cone < 12; cone++) {
            Check.due("cone " + cone, yard.cone(0, 10, 0), cone);
        }
        Check.throwing(yard, "cone 12", Check.STATE, () -> yard.cone(0, 10, 0));
        Check.throwing(yard, "cone 12 of 9", Check.ARGUMENT, () -> yard.cone(0, 9, 0));
        Check.throwing(yard, "cone 12 of lot 1", Check.INDEX, () -> yard.cone(1, 9, 0));
        Check.due("grams of the lot", yard.grams(0), 5000 - 120);
        Check.due("about the last", yard.about(11, 0, 2), 5);
    }

    private static void orderOfExceptions() {
        HatbandYard yard = yardWith(20);
        for (int lot : new int[] {Integer.MIN_VALUE, -1, 1, 9, 10, Integer.MAX_VALUE}) {
            Check.throwing(yard, "lot and grams", Check.INDEX, () -> yard.cone(lot, 9, 0));
            Check.throwing(yard, "lot and taper", Check.INDEX, () -> yard.cone(lot, 10, 6));
            Check.throwing(yard, "lot and all", Check.INDEX, () -> yard.cone(lot, 501, -1));
        }
        Check.throwing(yard, "too much and taper", Check.ARGUMENT, () -> yard.cone(0, 21, 6));
        Check.throwing(yard, "far too much", Check.ARGUMENT, () -> yard.cone(0, 501, 0));
        Check.due("the word is free of cones", yard.letter('a'), 1);
    }

    private static void aboutRefusesWhatIsNot() {
        HatbandYard yard = yardWith(20);
        yard.cone(0, 20, 0);
        for (int number : new int[] {Integer.MIN_VALUE, -1, 1, 11, 12, Integer.MAX_VALUE}) {
            Check.throwing(yard, "about cone " + number, Check.INDEX, () -> yard.about(number, 0, 0));
            Check.throwing(yard, "about cone and what", Check.INDEX, () -> yard.about(number, 0, 4));
        }
        for (int band : new int[] {Integer.MIN_VALUE, -1, 6, 7, Integer.MAX_VALUE}) {
            Check.throwing(yard, "about band " + band, Check.INDEX, () -> yard.about(0, band, 0));
            Check.throwing(yard, "about band and what", Check.INDEX, () -> yard.about(0, band, -1));
        }
        for (int what : new int[] {Integer.MIN_VALUE, -1, 4, Integer.MAX_VALUE}) {
            Check.throwing(yard, "about what " + what, Check.ARGUMENT, () -> yard.about(0, 5, what));
        }
    }
}
