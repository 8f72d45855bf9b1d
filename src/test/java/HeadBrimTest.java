/** Promises 13, 17, 18 and 19: brim, measure, fits, size. */
final class HeadBrimTest {
    private static final String[] FURS = {"rabbit", "wool", "beaver", "hare"};

    public static void main(String[] args) {
        pullOfABrim();
        brimOnADrawnCone();
        rangeOfABrimsWidth();
        brimOnNoCone();
        aroundAHead();
        aroundIsRoundedDown();
        rangeOfALength();
        measureOfNoRadius();
        aConeFits0To12();
        aDrawnConeFits();
        eachConeHasItsOwnEdge();
        fitsOfNoCone();
        sizesOfLands();
        sizeOfNoLand();
        Check.end("HeadBrimTest");
    }

    /** "twice the width, times 3.14159f, divided by the width of the band 0, from left to right". */
    private static void pullOfABrim() {
        for (String fur : FURS) {
            for (int cycles = 0; cycles <= 12; cycles++) {
                Yard yard = Yard.withCone(fur, 500, 0, cycles);
                int edge = yard.about(0, 0, 0);
                for (int width = 10; width <= 150; width++) {
                    float pull = 2.0f * width;
                    pull *= 3.14159f;
                    pull /= edge;
                    Check.dueFloat("brim " + width + " on " + edge, yard.brim(0, width), pull);
                }
            }
        }
        Yard yard = Yard.withCone("beaver", 500, 0, 0);
        Check.due("brim 10 on 1200", yard.brim(0, 10), 0x3d567744);
        Check.due("brim 60 on 1200", yard.brim(0, 60), 0x3ea0d973);
        Check.due("brim 150 on 1200", yard.brim(0, 150), 0x3f490fd0);
    }

    private static void brimOnADrawnCone() {
        Yard yard = Yard.withCone("beaver", 500, 0, 10);
        yard.block(700, 1);
        Check.dueFloat("brim 150 on 716", yard.brim(0, 150), 300f * 3.14159f / 716f);
        yard.draw(0, 0);
        Check.dueFloat("brim 150 on 700, drawn", yard.brim(0, 150), 300f * 3.14159f / 700f);
    }

    /** "width: 10 to 150". */
    private static void rangeOfABrimsWidth() {
        Yard yard = Yard.withCone("wool", 500, 0, 0);
        for (int width : new int[] {Integer.MIN_VALUE, -10, 0, 9, 151, Integer.MAX_VALUE}) {
            yard.refuses("brim of " + width, Check.ARGUMENT, y -> y.brim(0, width));
        }
        Check.dueFloat("brim of 10", yard.brim(0, 10), 20f * 3.14159f / 1200f);
        Check.dueFloat("brim of 11", yard.brim(0, 11), 22f * 3.14159f / 1200f);
        Check.dueFloat("brim of 149", yard.brim(0, 149), 298f * 3.14159f / 1200f);
        Check.dueFloat("brim of 150", yard.brim(0, 150), 300f * 3.14159f / 1200f);
    }

    private static void brimOnNoCone() {
        Yard yard = Yard.withCone("wool", 500, 0, 0);
        for (int cone : new int[] {Integer.MIN_VALUE, -1, 1, 11, 12, Integer.MAX_VALUE}) {
            yard.refuses("brim on " + cone, Check.INDEX, y -> y.brim(cone, 60));
            yard.refuses("brim of 9 on " + cone, Check.INDEX, y -> y.brim(cone, 9));
            yard.refuses("brim of 151 on " + cone, Check.INDEX, y -> y.brim(cone, 151));
        }
    }

    /** "A head is measured by eight radii": each counts, and the last length of each. */
    private static void aroundAHead() {
        Yard yard = new Yard();
        int[] lengths = {100, 99, 98, 97, 98, 99, 98, 100};
        int[] around = {78, 156, 233, 309, 386, 463, 540, 619};
        for (int radius = 0; radius < 8; radius++) {
            Check.due("around with " + radius, yard.measure(radius, lengths[radius]), around[radius]);
        }
        Check.due("measured again, smaller", yard.measure(7, 0), 540);
        Check.due("measured again, the same", yard.measure(7, 0), 540);
        for (int radius = 0; radius < 8; radius++) {
            yard.measure(radius, 200);
        }
        Check.due("the widest", yard.measure(0, 200), 1256);
        for (int radius = 0; radius < 8; radius++) {
            Check.due("radius " + radius + " to 0", yard.measure(radius, 0), 157 * (7 - radius));
        }
    }

    /** "their sum times 785, divided by 1000, rounded down": of the sum, not of each. */
    private static void aroundIsRoundedDown() {
        Yard yard = new Yard();
        Check.due("1 of 785", yard.measure(0, 1), 0);
        Check.due("2 of 785", yard.measure(1, 1), 1);
        Check.due("3 of 785", yard.measure(2, 1), 2);
        Check.due("4 of 785", yard.measure(3, 1), 3);
        Check.due("5 of 785", yard.measure(4, 1), 3);
        Check.due("199 and 4 of 785", yard.measure(0, 199), 159);
        Check.due("200 and 4 of 785", yard.measure(0, 200), 160);
    }

    /** "length: 0 to 200". */
    private static void rangeOfALength() {
        Yard yard = new Yard();
        yard.measure(0, 100);
        for (int radius = 0; radius < 8; radius++) {
            int number = radius;
            for (int length : new int[] {Integer.MIN_VALUE, -1, 201, Integer.MAX_VALUE}) {
                yard.refuses("length " + length, Check.ARGUMENT, y -> y.measure(number, length));
            }
        }
        Check.due("around stays", yard.measure(1, 0), 78);
        Check.due("length 200", yard.measure(0, 200), 157);
        Check.due("length 1", yard.measure(0, 1), 0);
        Check.due("length 199", yard.measure(0, 199), 156);
        Check.due("length 0", yard.measure(0, 0), 0);
    }

    /** "radius: 0 to 7", ahead of the length. */
    private static void measureOfNoRadius() {
        Yard yard = new Yard();
        yard.measure(7, 100);
        for (int radius : new int[] {Integer.MIN_VALUE, -1, 8, 9, Integer.MAX_VALUE}) {
            yard.refuses("radius " + radius, Check.INDEX, y -> y.measure(radius, 10));
            yard.refuses("radius " + radius + " of -1", Check.INDEX, y -> y.measure(radius, -1));
            yard.refuses("radius " + radius + " of 201", Check.INDEX, y -> y.measure(radius, 201));
        }
        Check.due("around stays", yard.measure(0, 0), 78);
    }

    /** "A cone fits, if its band 0 is 0 to 12 wider than that." */
    private static void aConeFits0To12() {
        Yard yard = Yard.withCone("wool", 500, 0, 6);
        for (int radius = 0; radius < 8; radius++) {
            yard.measure(radius, 97);
        }
        int[] lengths = {114, 115, 116, 131, 132, 133};
        int[] around = {622, 623, 624, 635, 636, 637};
        boolean[] due = {false, false, true, true, true, false};
        for (int i = 0; i < lengths.length; i++) {
            Check.due("around with " + lengths[i], yard.measure(0, lengths[i]), around[i]);
            Check.due("636 fits " + around[i], yard.fits(0), due[i]);
        }
        for (int length = 60; length <= 200; length++) {
            int ease = 636 - yard.measure(0, length);
            Check.due("fits by " + ease, yard.fits(0), ease >= 0 && ease <= 12);
        }
        Yard formed = Yard.withCone("wool", 500, 0, 0);
        Check.due("a cone as formed, and no head", formed.fits(0), false);
        for (int radius = 0; radius < 8; radius++) {
            formed.measure(radius, 191);
        }
        Check.due("around 1199", formed.measure(0, 191), 1199);
        Check.due("1200 fits 1199", formed.fits(0), true);
        Check.due("around 1200", formed.measure(0, 192), 1200);
        Check.due("1200 fits 1200", formed.fits(0), true);
        Check.due("around 1201", formed.measure(0, 193), 1201);
        Check.due("1200 fits 1201", formed.fits(0), false);
    }

    /** The edge that counts is that of the block: 700, not the 716 that the cone had before. */
    private static void aDrawnConeFits() {
        Yard yard = Yard.withCone("beaver", 500, 0, 10);
        yard.block(700, 1);
        yard.draw(0, 0);
        for (int radius = 0; radius < 8; radius++) {
            yard.measure(radius, 110);
        }
        int[] lengths = {105, 106, 107, 121, 122, 123};
        int[] around = {686, 687, 688, 699, 700, 701};
        boolean[] due = {false, false, true, true, true, false};
        for (int i = 0; i < lengths.length; i++) {
            Check.due("around with " + lengths[i], yard.measure(0, lengths[i]), around[i]);
            Check.due("700 fits " + around[i], yard.fits(0), due[i]);
        }
    }

    private static void eachConeHasItsOwnEdge() {
        Yard yard = Yard.withCone("wool", 500, 0, 6);
        yard.cone(0, 100, 0);
        yard.cycle(1, 0);
        for (int radius = 0; radius < 8; radius++) {
            yard.measure(radius, 100);
        }
        Check.due("636 fits 628", yard.fits(0), true);
        Check.due("1080 does not", yard.fits(1), false);
        Check.dueFloat("brim on 636", yard.brim(0, 60), 120f * 3.14159f / 636f);
        Check.dueFloat("brim on 1080", yard.brim(1, 60), 120f * 3.14159f / 1080f);
        for (int radius = 0; radius < 8; radius++) {
            yard.measure(radius, 171);
        }
        Check.due("636 fits 1073", yard.fits(0), false);
        Check.due("1080 does", yard.fits(1), true);
    }

    private static void fitsOfNoCone() {
        Yard yard = Yard.withCone("wool", 500, 0, 0);
        for (int cone : new int[] {Integer.MIN_VALUE, -1, 1, 11, 12, Integer.MAX_VALUE}) {
            yard.refuses("fits " + cone, Check.INDEX, y -> y.fits(cone) ? 1 : 0);
        }
    }

    private static Yard withHead(int sum) {
        Yard yard = new Yard();
        int left = sum;
        for (int radius = 0; radius < 8; radius++) {
            yard.measure(radius, Math.min(200, left));
            left -= Math.min(200, left);
        }
        return yard;
    }

    /** "the millimetres around the head, divided by 10.0f", and so on, for every head that there may be. */
    private static void sizesOfLands() {
        for (int sum = 0; sum <= 1600; sum++) {
            Yard yard = withHead(sum);
            int around = yard.measure(7, Math.max(0, sum - 1400));
            Check.due("around " + sum, around, sum * 785 / 1000);
            float second = around;
            second /= 79.796f;
            Check.dueFloat("land 0 of " + around, yard.size(0), around / 10.0f);
            Check.dueFloat("land 1 of " + around, yard.size(1), second);
            Check.dueFloat("land 2 of " + around, yard.size(2), second + 0.125f);
            Check.dueFloat("land 3 of " + around, yard.size(3), around / 6.77f);
        }
        Check.due("land 0 of the widest", withHead(1600).size(0), 0x42fb3333);
    }

    /** "land: 0 to 3". */
    private static void sizeOfNoLand() {
        for (int sum = 0; sum <= 1600; sum += 800) {
            Yard yard = withHead(sum);
            for (int land : new int[] {Integer.MIN_VALUE, -1, 4, Integer.MAX_VALUE}) {
                yard.refuses("size in " + land, Check.INDEX, y -> y.size(land));
            }
        }
    }
}
