/** Promises 7, 8 and 12: block, draw, widthAnew. */
final class BlockDrawTest {
    public static void main(String[] args) {
        blocksAreMade();
        rangesOfABlock();
        ninthBlockIsRefused();
        drawnOverABlock();
        drawnAgainDownwards();
        eachFurBearsSomeBlocks();
        holesComeFirst();
        strainOfTheEdge();
        tornAheadOfTooWide();
        tooWide();
        blockIsTold();
        numbersThatAreNot();
        Check.end("BlockDrawTest");
    }

    private static HatbandYard yardOf(String fur, int grams, int taper, int cycles) {
        HatbandYard yard = new HatbandYard();
        Check.lotOf(yard, fur, 5000);
        yard.cone(0, grams, taper);
        yard.hand();
        Check.cycles(yard, 0, 0, cycles);
        return yard;
    }

    private static void blocksAreMade() {
        HatbandYard yard = new HatbandYard();
        Check.due("300, 1", yard.block(300, 1), 0);
        Check.due("700, 6", yard.block(700, 6), 1);
        Check.due("the same once more", yard.block(700, 6), 2);
    }

    private static void rangesOfABlock() {
        HatbandYard yard = new HatbandYard();
        for (int size : new int[] {Integer.MIN_VALUE, -300, 0, 299, 701, Integer.MAX_VALUE}) {
            Check.throwing(yard, "block of size " + size, Check.ARGUMENT, () -> yard.block(size, 3));
        }
        for (int depth : new int[] {Integer.MIN_VALUE, -1, 0, 7, Integer.MAX_VALUE}) {
            Check.throwing(yard, "block of depth " + depth, Check.ARGUMENT, () -> yard.block(500, depth));
        }
        Check.due("block after refused ones", yard.block(500, 3), 0);
    }

    private static void ninthBlockIsRefused() {
        HatbandYard yard = new HatbandYard();
        for (int block = 0; block < 8; block++) {
            Check.due("block " + block, yard.block(300 + block, 1), block);
        }
        Check.throwing(yard, "block 8", Check.STATE, () -> yard.block(300, 1));
        Check.throwing(yard, "block 8 of size 299", Check.ARGUMENT, () -> yard.block(299, 1));
        Check.throwing(yard, "block 8 of depth 7", Check.ARGUMENT, () -> yard.block(300, 7));
    }

    private static void drawnOverABlock() {
        HatbandYard yard = yardOf("beaver", 500, 5, 10);
        Check.widths(yard, 0, 716, 626, 536, 445, 356, 265);
        yard.block(700, 1);
        Check.due("draw", yard.draw(0, 0), 0);
        Check.widths(yard, 0, 700, 630, 560, 490, 420, 350);
        for (int band = 0; band < 6; band++) {
            Check.due("the height stays", yard.about(0, band, 1), 33);
            int area = 33 * (700 - 70 * band);
            Check.due("thickness, drawn", yard.about(0, band, 3), yard.about(0, band, 2) * 100000 / area);
        }
        Check.due("drawn over the same", yard.draw(0, 0), 0);
        Check.widths(yard, 0, 700, 630, 560, 490, 420, 350);
    }

    // Below 510 a tenth is at most 50, so the step from band to band is 50.
    private static void drawnAgainDownwards() {
        HatbandYard yard = yardOf("hare", 500, 0, 12);
        Check.widths(yard, 0, 498, 435, 372, 308, 246, 184);
        int[] sizes = {463, 449, 435, 422, 409, 397, 386, 376};
        for (int block = 0; block < sizes.length; block++) {
            int size = sizes[block];
            yard.block(size, 1);
            Check.due("draw over " + size, yard.draw(0, block), 0);
            Check.widths(yard, 0, size, size - 50, size - 100, size - 150, size - 200, size - 250);
        }
        Check.due("back over 409: band 5 from 126 to 159, 26 of 100", yard.draw(0, 4), 2);
        Check.widths(yard, 0, 376, 326, 276, 226, 176, 126);
        Check.due("back over 397: band 5 from 126 to 147, 16 of 100", yard.draw(0, 5), 0);
        Check.widths(yard, 0, 397, 347, 297, 247, 197, 147);
    }

    private static void drawnWithin(String fur, int cycles, int depth, int least, int most) {
        int[] due = {3, 0, 0, 2};
        int[] sizes = {least - 1, least, most, most + 1};
        for (int i = 0; i < sizes.length; i++) {
            HatbandYard yard = yardOf(fur, 500, 3, cycles);
            yard.block(sizes[i], depth);
            String draw = fur + " after " + cycles + " over " + sizes[i] + ", " + depth;
            Check.due(draw, yard.draw(0, 0), due[i]);
            int step = Math.max(50, sizes[i] / 10);
            for (int band = 0; band < 6 && due[i] == 0; band++) {
                int want = sizes[i] - step * Math.max(0, band - depth + 1);
                Check.due(draw + ", band " + band, yard.about(0, band, 0), want);
                Check.due(draw + ", anew, band " + band, yard.widthAnew(0, band), want);
            }
        }
    }

    // Over a block one less wide some band is too wide still, over one more wide a band is torn.
    private static void eachFurBearsSomeBlocks() {
        drawnWithin("wool", 10, 1, 387, 427);
        drawnWithin("wool", 10, 2, 373, 377);
        drawnWithin("rabbit", 11, 1, 437, 464);
        drawnWithin("rabbit", 12, 1, 402, 446);
        drawnWithin("hare", 12, 1, 463, 481);
        drawnWithin("beaver", 11, 1, 646, 681);
    }

    private static void holesComeFirst() {
        HatbandYard thin = yardOf("beaver", 40, 0, 0);
        thin.block(700, 1);
        Check.due("a thin cone", thin.draw(0, 0), 1);
        Check.widths(thin, 0, 1200, 1050, 900, 750, 600, 450);
        holeOrNot("rabbit", 155, 0, 1, 39, 1);
        holeOrNot("rabbit", 159, 0, 0, 40, 3);
        holeOrNot("rabbit", 136, 1, 1, 40, 3);
        holeOrNot("rabbit", 116, 2, 0, 39, 1);
    }

    // The named band is the thinnest, the others are above 40.
    private static void holeOrNot(String fur, int grams, int cycles, int band, int thick, int want) {
        HatbandYard yard = yardOf(fur, grams, 0, cycles);
        yard.block(300, 1);
        Check.due(grams + " of " + fur + ", thickness of band " + band, yard.about(0, band, 3), thick);
        Check.due(grams + " of " + fur + ", draw", yard.draw(0, 0), want);
    }

    // Beaver bears 35 of 100: band 5, 238 wide, goes up to 323 (100 * 85 / 238 is 35), not to 324.
    private static void strainOfTheEdge() {
        HatbandYard yard = yardOf("beaver", 500, 0, 12);
        Check.widths(yard, 0, 646, 564, 483, 400, 321, 238);
        yard.block(644, 1);
        yard.block(639, 1);
        yard.block(643, 1);
        Check.due("644: band 5 to 644 - 5 * 64 = 324", yard.draw(0, 0), 2);
        Check.due("639: band 5 to 639 - 5 * 63 = 324", yard.draw(0, 1), 2);
        Check.due("643: band 5 to 643 - 5 * 64 = 323", yard.draw(0, 2), 0);
        Check.widths(yard, 0, 643, 579, 515, 451, 387, 323);
    }

    private static void tornAheadOfTooWide() {
        HatbandYard yard = yardOf("wool", 500, 0, 6);
        Check.widths(yard, 0, 636, 557, 477, 396, 317, 237);
        yard.block(500, 6);
        Check.due("band 0 too wide, band 5 torn", yard.draw(0, 0), 2);
        Check.widths(yard, 0, 636, 557, 477, 396, 317, 237);
    }

    private static void tooWide() {
        HatbandYard yard = yardOf("beaver", 500, 0, 0);
        yard.block(700, 1);
        yard.block(700, 6);
        Check.due("all are too wide", yard.draw(0, 0), 3);
        Check.due("band 5 is torn", yard.draw(0, 1), 2);
        HatbandYard drawn = yardOf("beaver", 500, 0, 10);
        drawn.block(700, 1);
        drawn.block(664, 1);
        drawn.block(665, 1);
        Check.due("over 700", drawn.draw(0, 0), 0);
        Check.due("700 shrunk is 665, above 664", drawn.draw(0, 1), 3);
        Check.widths(drawn, 0, 700, 630, 560, 490, 420, 350);
        Check.due("700 shrunk is 665", drawn.draw(0, 2), 0);
        Check.widths(drawn, 0, 665, 599, 533, 467, 401, 335);
    }

    // Beaver drawn over 700, 1 (700, 630, 560, 490, 420, 350) shows by what tears how wide a block is where.
    private static void blockIsTold() {
        int[] depths = {1, 2, 3, 4, 5, 6};
        int[] due = {0, 0, 2, 2, 2, 2};
        for (int i = 0; i < depths.length; i++) {
            HatbandYard yard = yardOf("beaver", 500, 5, 10);
            yard.block(700, 1);
            yard.draw(0, 0);
            yard.block(700, depths[i]);
            Check.due("700 of depth " + depths[i], yard.draw(0, 1), due[i]);
        }
        HatbandYard yard = yardOf("beaver", 500, 5, 10);
        for (int depth = 1; depth <= 6; depth++) {
            yard.block(700, depth);
            Check.due("700 ever deeper, " + depth, yard.draw(0, depth - 1), 0);
            for (int band = 0; band < 6; band++) {
                int want = 700 - 70 * Math.max(0, band - depth + 1);
                Check.due("depth " + depth + ", band " + band, yard.about(0, band, 0), want);
                Check.due("anew, depth " + depth + ", band " + band, yard.widthAnew(0, band), want);
            }
        }
    }

    private static void numbersThatAreNot() {
        HatbandYard yard = yardOf("beaver", 500, 0, 10);
        yard.block(700, 1);
        for (int number : new int[] {Integer.MIN_VALUE, -1, 1, 7, 8, 11, 12, Integer.MAX_VALUE}) {
            Check.throwing(yard, "draw of cone " + number, Check.INDEX, () -> yard.draw(number, 0));
            Check.throwing(yard, "draw over block " + number, Check.INDEX, () -> yard.draw(0, number));
            Check.throwing(yard, "widthAnew of cone " + number, Check.INDEX, () -> yard.widthAnew(number, 0));
        }
        for (int band : new int[] {Integer.MIN_VALUE, -1, 6, Integer.MAX_VALUE}) {
            Check.throwing(yard, "widthAnew of band " + band, Check.INDEX, () -> yard.widthAnew(0, band));
        }
    }
}
