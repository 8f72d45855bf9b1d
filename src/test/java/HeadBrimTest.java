/** Promises 13, 17, 18 and 19: brim, measure, fits, size. */
final class HeadBrimTest {
    public static void main(String[] args) {
        pullOfABrim();
        brimRefuses();
        aroundAHead();
        measureRefuses();
        aConeFits();
        aDrawnConeFits();
        sizesOfLands();
        sizeRefuses();
        Check.end("HeadBrimTest");
    }

    private static HatbandYard yardOf(String fur) {
        HatbandYard yard = new HatbandYard();
        Check.lotOf(yard, fur, 5000);
        yard.cone(0, 500, 0);
        yard.hand();
        return yard;
    }

    private static void pullOfABrim() {
        for (String fur : new String[] {"rabbit", "wool", "beaver", "hare"}) {
            HatbandYard yard = yardOf(fur);
            for (int cycle = 0; cycle <= 12; cycle++) {
                int edge = yard.about(0, 0, 0);
                for (int width = 10; width <= 150; width++) {
                    float pull = 2.0f * width * 3.14159f / edge;
                    Check.due("brim " + width + " on " + edge, yard.brim(0, width), Float.floatToIntBits(pull));
                }
                if (cycle < 12) {
                    Check.cycles(yard, 0, 0, 1);
                }
            }
        }
        HatbandYard yard = yardOf("beaver");
        Check.due("brim 60 on 1200", yard.brim(0, 60), Float.floatToIntBits(120f * 3.14159f / 1200f));
        Check.cycles(yard, 0, 0, 10);
        yard.block(700, 1);
        yard.draw(0, 0);
        Check.due("brim 150 on 700, drawn", yard.brim(0, 150), Float.floatToIntBits(300f * 3.14159f / 700f));
    }

    private static void brimRefuses() {
        HatbandYard yard = yardOf("wool");
        for (int width : new int[] {Integer.MIN_VALUE, -10, 0, 9, 151, Integer.MAX_VALUE}) {
            Check.throwing(yard, "brim of " + width, Check.ARGUMENT, () -> yard.brim(0, width));
            Check.throwing(yard, "brim of " + width + " on no cone", Check.INDEX, () -> yard.brim(1, width));
        }
        for (int cone : new int[] {Integer.MIN_VALUE, -1, 1, 12, Integer.MAX_VALUE}) {
            Check.throwing(yard, "brim on " + cone, Check.INDEX, () -> yard.brim(cone, 60));
        }
    }

    private static void aroundAHead() {
        HatbandYard yard = new HatbandYard();
        int[] lengths = {100, 99, 98, 97, 98, 99, 98, 100};
        int[] around = {78, 156, 233, 309, 386, 463, 540, 619};
        for (int radius = 0; radius < 8; radius++) {
            Check.due("around with " + radius, yard.measure(radius, lengths[radius]), around[radius]);
        }
        Check.due("measured again, smaller", yard.measure(7, 0), 540);
        for (int radius = 0; radius < 8; radius++) {
            yard.measure(radius, 200);
        }
        Check.due("the widest", yard.measure(0, 200), 1256);
        Check.due("one to 0", yard.measure(3, 0), 1099);
        HatbandYard small = new HatbandYard();
        Check.due("1 of 785", small.measure(0, 1), 0);
        Check.due("2 of 785", small.measure(1, 1), 1);
    }

    private static void measureRefuses() {
        HatbandYard yard = new HatbandYard();
        yard.measure(0, 100);
        for (int length : new int[] {Integer.MIN_VALUE, -1, 201, Integer.MAX_VALUE}) {
            Check.throwing(yard, "length " + length, Check.ARGUMENT, () -> yard.measure(0, length));
            Check.throwing(yard, "length and radius", Check.INDEX, () -> yard.measure(8, length));
        }
        for (int radius : new int[] {Integer.MIN_VALUE, -1, 8, Integer.MAX_VALUE}) {
            Check.throwing(yard, "radius " + radius, Check.INDEX, () -> yard.measure(radius, 10));
        }
        Check.due("around stays", yard.measure(1, 0), 78);
    }

    // A sum of 786 to 811 and a cone of 636 around: 617 to 636.
    private static void aConeFits() {
        HatbandYard yard = yardOf("wool");
        for (int cycle = 0; cycle < 6; cycle++) {
            yard.cycle(0, 0);
        }
        for (int radius = 0; radius < 8; radius++) {
            yard.measure(radius, 97);
        }
        boolean wasLoose = false;
        boolean wasTight = false;
        for (int length = 60; length <= 200; length++) {
            int around = yard.measure(0, length);
            int ease = 636 - around;
            Check.due("fits by " + ease, yard.fits(0), ease >= 0 && ease <= 12);
            wasLoose = wasLoose || ease == 13;
            wasTight = wasTight || ease == -1;
        }
        Check.due("both edges were tried", wasLoose && wasTight, true);
        Check.throwing(yard, "fits -1", Check.INDEX, () -> yard.fits(-1));
        Check.throwing(yard, "fits 1", Check.INDEX, () -> yard.fits(1));
        Check.throwing(yard, "fits 12", Check.INDEX, () -> yard.fits(12));
        Check.throwing(yard, "fits at the least", Check.INDEX, () -> yard.fits(Integer.MIN_VALUE));
    }

    // The edge that counts is that of the block: 700, not the 716 that the cone had before.
    private static void aDrawnConeFits() {
        HatbandYard yard = yardOf("beaver");
        Check.cycles(yard, 0, 0, 10);
        yard.block(700, 1);
        yard.draw(0, 0);
        for (int radius = 0; radius < 8; radius++) {
            yard.measure(radius, 110);
        }
        int[] lengths = {105, 106, 121, 122};
        int[] around = {686, 687, 699, 700};
        for (int i = 0; i < lengths.length; i++) {
            Check.due("around with " + lengths[i], yard.measure(0, lengths[i]), around[i]);
            Check.due("700 fits " + around[i], yard.fits(0), around[i] >= 688);
        }
        Check.due("around with 107", yard.measure(0, 107), 688);
        Check.due("700 fits 688", yard.fits(0), true);
        Check.due("around with 123", yard.measure(0, 123), 701);
        Check.due("700 fits 701", yard.fits(0), false);
    }

    private static void sizesOfLands() {
        HatbandYard yard = new HatbandYard();
        Check.due("land 0, not measured", yard.size(0), 0);
        Check.due("land 2, not measured", yard.size(2), Float.floatToIntBits(0.125f));
        for (int radius = 0; radius < 8; radius++) {
            for (int length = 1; length <= 200; length++) {
                int around = yard.measure(radius, length);
                Check.due("land 0 of " + around, yard.size(0), Float.floatToIntBits(around / 10.0f));
                Check.due("land 1 of " + around, yard.size(1), Float.floatToIntBits(around / 79.796f));
                Check.due("land 2 of " + around, yard.size(2), Float.floatToIntBits(around / 79.796f + 0.125f));
                Check.due("land 3 of " + around, yard.size(3), Float.floatToIntBits(around / 6.77f));
            }
        }
    }

    private static void sizeRefuses() {
        HatbandYard yard = new HatbandYard();
        for (int land : new int[] {Integer.MIN_VALUE, -1, 4, Integer.MAX_VALUE}) {
            Check.throwing(yard, "size in " + land, Check.INDEX, () -> yard.size(land));
        }
    }
}
