/** Promises 4 and 11: cone, about. */
final class ConeTest {
    private static final int[] FORMED = {1200, 1050, 900, 750, 600, 450};

    public static void main(String[] args) {
        bandsAsFormed();
        gramsByTaper();
        whatIsLeftOverGoesToBand0();
        thicknessIsRoundedDown();
        rangeOfGrams();
        rangeOfTaper();
        lotMustHaveSoMuch();
        twelveConesAndNoMore();
        indexAheadOfAll();
        argumentAheadOfState();
        aboutOfNoCone();
        aboutOfNoBand();
        aboutOfNoWhat();
        Check.end("ConeTest");
    }

    private static Yard yardWith(int grams) {
        Yard yard = new Yard();
        yard.lotOf("beaver", grams);
        return yard;
    }

    /** "A cone has 6 bands, 0 at its edge to 5 at its tip; band b is 1200 less 150 b wide (around), and 60 high". */
    private static void bandsAsFormed() {
        Yard yard = yardWith(5000);
        Check.due("cone 0", yard.cone(0, 120, 2), 0);
        Check.due("cone 1", yard.cone(0, 500, 0), 1);
        yard.hasWidths(0, FORMED);
        yard.hasWidths(1, FORMED);
        for (int band = 0; band < 6; band++) {
            Check.due("height of band " + band, yard.about(0, band, 1), 60);
            Check.due("height of band " + band, yard.about(1, band, 1), 60);
        }
    }

    private static void gramsOfBands(int grams, int taper, int... want) {
        Yard yard = yardWith(5000);
        yard.cone(0, grams, taper);
        for (int band = 0; band < 6; band++) {
            String which = grams + " by " + taper + ", band " + band;
            Check.due("grams of " + which, yard.about(0, band, 2), want[band]);
        }
        Check.due("what is left", yard.grams(0), 5000 - grams);
    }

    /** "the band b has a part, 10 and the taper times b together", the least and the most of grams and taper too. */
    private static void gramsByTaper() {
        gramsOfBands(10, 0, 5, 1, 1, 1, 1, 1);
        gramsOfBands(10, 5, 3, 1, 1, 1, 2, 2);
        gramsOfBands(11, 0, 6, 1, 1, 1, 1, 1);
        gramsOfBands(12, 0, 2, 2, 2, 2, 2, 2);
        gramsOfBands(60, 0, 10, 10, 10, 10, 10, 10);
        gramsOfBands(75, 1, 10, 11, 12, 13, 14, 15);
        gramsOfBands(120, 2, 15, 16, 18, 21, 24, 26);
        gramsOfBands(101, 1, 16, 14, 16, 17, 18, 20);
        gramsOfBands(499, 3, 50, 61, 76, 90, 104, 118);
        gramsOfBands(333, 4, 30, 38, 49, 61, 72, 83);
        gramsOfBands(500, 0, 85, 83, 83, 83, 83, 83);
        gramsOfBands(500, 5, 39, 55, 74, 92, 111, 129);
    }

    /** "rounded down; what is left over goes to the band 0", for all grams and tapers. */
    private static void whatIsLeftOverGoesToBand0() {
        int[] together = {60, 75, 90, 105, 120, 135};
        for (int grams = 10; grams <= 500; grams++) {
            for (int taper = 0; taper <= 5; taper++) {
                int[] laid = new int[6];
                laid[0] = grams;
                for (int band = 1; band < 6; band++) {
                    laid[band] = Math.floorDiv(grams * (10 + taper * band), together[taper]);
                    laid[0] -= laid[band];
                }
                gramsOfBands(grams, taper, laid);
            }
        }
    }

    /** "its grams times 100000, divided by its width times its height, rounded down". */
    private static void thicknessIsRoundedDown() {
        int[] due = {50, 57, 66, 80, 100, 133};
        Yard yard = yardWith(5000);
        yard.cone(0, 216, 0);
        for (int band = 0; band < 6; band++) {
            Check.due("thickness of 36 grams, band " + band, yard.about(0, band, 3), due[band]);
        }
        yard.cone(0, 10, 0);
        Check.due("thickness of 5 grams", yard.about(1, 0, 3), 6);
        Check.due("thickness of 1 gram", yard.about(1, 1, 3), 1);
        yard.cone(0, 500, 5);
        Check.due("thickness of 129 grams", yard.about(2, 5, 3), 477);
    }

    /** "grams: 10 to 500". */
    private static void rangeOfGrams() {
        Yard yard = yardWith(5000);
        for (int grams : new int[] {Integer.MIN_VALUE, -1, 0, 9, 501, 5000, Integer.MAX_VALUE}) {
            for (int taper = 0; taper <= 5; taper += 5) {
                int by = taper;
                yard.refuses("cone of " + grams, Check.ARGUMENT, y -> y.cone(0, grams, by));
            }
        }
        Check.due("10 grams", yard.cone(0, 10, 0), 0);
        Check.due("500 grams", yard.cone(0, 500, 0), 1);
        Check.due("11 grams", yard.cone(0, 11, 5), 2);
        Check.due("499 grams", yard.cone(0, 499, 5), 3);
        Check.due("grams of the lot", yard.grams(0), 5000 - 1020);
    }

    /** "taper: 0 to 5". */
    private static void rangeOfTaper() {
        Yard yard = yardWith(5000);
        for (int taper : new int[] {Integer.MIN_VALUE, -1, 6, Integer.MAX_VALUE}) {
            yard.refuses("cone of 10 by " + taper, Check.ARGUMENT, y -> y.cone(0, 10, taper));
            yard.refuses("cone of 500 by " + taper, Check.ARGUMENT, y -> y.cone(0, 500, taper));
        }
        for (int taper = 0; taper <= 5; taper++) {
            Check.due("cone by " + taper, yard.cone(0, 500, taper), taper);
        }
    }

    /** "or the lot has not so much". */
    private static void lotMustHaveSoMuch() {
        Yard yard = yardWith(100);
        yard.refuses("101 of 100", Check.STATE, y -> y.cone(0, 101, 0));
        Check.due("90 of 100", yard.cone(0, 90, 0), 0);
        yard.refuses("11 of 10", Check.STATE, y -> y.cone(0, 11, 0));
        Check.due("10 of 10", yard.cone(0, 10, 0), 1);
        Check.due("nothing is left", yard.grams(0), 0);
        yard.refuses("10 of 0", Check.STATE, y -> y.cone(0, 10, 0));
        yard.lotOf("wool", 9);
        yard.refuses("10 of 9", Check.STATE, y -> y.cone(1, 10, 0));
        yard.lotOf("wool", 500);
        yard.refuses("500 of lot 0 though lot 2 has them", Check.STATE, y -> y.cone(0, 500, 0));
        Check.due("500 of 500", yard.cone(2, 500, 5), 2);
        Yard other = yardWith(499);
        other.refuses("500 of 499", Check.STATE, y -> y.cone(0, 500, 5));
        Check.due("499 of 499", other.cone(0, 499, 5), 0);
    }

    private static Yard withTwelveCones() {
        Yard yard = yardWith(5000);
        for (int cone = 0; cone < 12; cone++) {
            Check.due("cone " + cone, yard.cone(0, 12 + 6 * cone, 0), cone);
        }
        return yard;
    }

    /** "Cones are numbered from 0, at most 12", "IllegalStateException if there are 12". */
    private static void twelveConesAndNoMore() {
        Yard yard = withTwelveCones();
        yard.refuses("thirteenth cone", Check.STATE, y -> y.cone(0, 10, 0));
        yard.refuses("thirteenth cone of 500 by 5", Check.STATE, y -> y.cone(0, 500, 5));
        Check.due("grams of the lot", yard.grams(0), 5000 - 540);
        for (int cone = 0; cone < 12; cone++) {
            Check.due("grams of cone " + cone, yard.about(cone, 5, 2), 2 + cone);
        }
        yard.refuses("about of cone 12", Check.INDEX, y -> y.about(12, 0, 0));
        yard.lotOf("hare", 10);
        yard.refuses("thirteenth cone, of another lot", Check.STATE, y -> y.cone(1, 10, 0));
    }

    private static void indexAheadOfAll() {
        Yard yard = yardWith(20);
        for (int lot : new int[] {Integer.MIN_VALUE, -1, 1, 9, 10, Integer.MAX_VALUE}) {
            yard.refuses("no lot", Check.INDEX, y -> y.cone(lot, 10, 0));
            yard.refuses("no lot, and grams", Check.INDEX, y -> y.cone(lot, 9, 0));
            yard.refuses("no lot, and taper", Check.INDEX, y -> y.cone(lot, 10, 6));
            yard.refuses("no lot, grams and taper", Check.INDEX, y -> y.cone(lot, 501, -1));
            yard.refuses("no lot, and more than any has", Check.INDEX, y -> y.cone(lot, 21, 0));
        }
        Yard full = withTwelveCones();
        full.refuses("thirteenth cone of no lot", Check.INDEX, y -> y.cone(1, 10, 0));
        full.refuses("thirteenth cone of no lot, and grams", Check.INDEX, y -> y.cone(-1, 9, 0));
        full.refuses("thirteenth cone of no lot, and taper", Check.INDEX, y -> y.cone(10, 10, 6));
    }

    private static void argumentAheadOfState() {
        Yard yard = yardWith(20);
        yard.refuses("too much, and taper 6", Check.ARGUMENT, y -> y.cone(0, 21, 6));
        yard.refuses("too much, and taper -1", Check.ARGUMENT, y -> y.cone(0, 21, -1));
        yard.refuses("501 of 20", Check.ARGUMENT, y -> y.cone(0, 501, 0));
        yard.cone(0, 20, 0);
        yard.refuses("9 of 0", Check.ARGUMENT, y -> y.cone(0, 9, 0));
        Yard full = withTwelveCones();
        full.refuses("thirteenth cone of 9", Check.ARGUMENT, y -> y.cone(0, 9, 0));
        full.refuses("thirteenth cone of 501", Check.ARGUMENT, y -> y.cone(0, 501, 5));
        full.refuses("thirteenth cone by -1", Check.ARGUMENT, y -> y.cone(0, 10, -1));
        full.refuses("thirteenth cone by 6", Check.ARGUMENT, y -> y.cone(0, 500, 6));
    }

    private static void aboutOfNoCone() {
        Yard yard = yardWith(20);
        yard.cone(0, 20, 0);
        for (int number : new int[] {Integer.MIN_VALUE, -1, 1, 11, 12, Integer.MAX_VALUE}) {
            for (int what = 0; what <= 3; what++) {
                int asked = what;
                yard.refuses("about of cone " + number, Check.INDEX, y -> y.about(number, 0, asked));
            }
            yard.refuses("about of no cone and band", Check.INDEX, y -> y.about(number, 6, 0));
            yard.refuses("about of no cone and what", Check.INDEX, y -> y.about(number, 0, 4));
            yard.refuses("about of no cone, band and what", Check.INDEX, y -> y.about(number, -1, -1));
        }
    }

    private static void aboutOfNoBand() {
        Yard yard = yardWith(20);
        yard.cone(0, 20, 0);
        for (int band : new int[] {Integer.MIN_VALUE, -1, 6, 7, Integer.MAX_VALUE}) {
            for (int what = 0; what <= 3; what++) {
                int asked = what;
                yard.refuses("about of band " + band, Check.INDEX, y -> y.about(0, band, asked));
            }
            yard.refuses("about of no band and what", Check.INDEX, y -> y.about(0, band, -1));
            yard.refuses("about of no band and what", Check.INDEX, y -> y.about(0, band, 4));
        }
    }

    /** "what: 0 its width, 1 its height, 2 its grams, 3 how thick it is". */
    private static void aboutOfNoWhat() {
        Yard yard = yardWith(60);
        yard.cone(0, 60, 0);
        for (int band = 0; band < 6; band++) {
            int number = band;
            for (int what : new int[] {Integer.MIN_VALUE, -1, 4, Integer.MAX_VALUE}) {
                yard.refuses("about what " + what, Check.ARGUMENT, y -> y.about(0, number, what));
            }
            Check.due("about what 0", yard.about(0, band, 0), FORMED[band]);
            Check.due("about what 1", yard.about(0, band, 1), 60);
            Check.due("about what 2", yard.about(0, band, 2), 10);
            Check.due("about what 3", yard.about(0, band, 3), 1000000 / (FORMED[band] * 60));
        }
    }
}
