/** Promises 7, 8 and 12: block, draw, widthAnew. */
final class BlockDrawTest {
    public static void main(String[] args) {
        blocksAreMade();
        rangesOfABlock();
        ninthBlockIsRefused();
        drawnOverABlock();
        drawnAgainDownwards();
        widthsOfLeastAndMost();
        furThatBearsABlock();
        everyBlockOnEachFur();
        holesComeFirst();
        strainOfTheEdge();
        tornAheadOfTooWide();
        tooWide();
        blockIsTold();
        numbersThatAreNot();
        Check.end("BlockDrawTest");
    }

    private static HatbandYard yardOf(String fur, int grams, int taper, int cycles) {
        HatbandYard yard = new HatbandYard();
        Check.lotOf(yard, fur, 5000);
        yard.cone(0, grams, taper);
        yard.hand();
        Check.cycles(yard, 0, 0, cycles);
        return yard;
    }

    private static void blocksAreMade() {
        HatbandYard yard = new HatbandYard();
        Check.due("300, 1", yard.block(300, 1), 0);
        Check.due("700, 6", yard.block(700, 6), 1);
        Check.due("the same once more", yard.block(700, 6), 2);
    }

    private static void rangesOfABlock() {
        HatbandYard yard = new HatbandYard();
        for (int size : new int[] {Integer.MIN_VALUE, -300, 0, 299, 701, Integer.MAX_VALUE}) {
            Check.throwing(yard, "block of size " + size, Check.ARGUMENT, () -> yard.block(size, 3));
        }
        for (int depth : new int[] {Integer.MIN_VALUE, -1, 0, 7, Integer.MAX_VALUE}) {
            Check.throwing(yard, "block of depth " + depth, Check.ARGUMENT, () -> yard.block(500, depth));
        }
        Check.due("block after refused ones", yard.block(500, 3), 0);
    }

    private static void ninthBlockIsRefused() {
        HatbandYard yard = new HatbandYard();
        for (int block = 0; block < 8; block++) {
            Check.due("block " + block, yard.block(300 + block, 1), block);
        }
        Check.throwing(yard, "block 8", Check.STATE, () -> yard.block(300, 1));
        Check.throwing(yard, "block 8 of size 299", Check.ARGUMENT, () -> yard.block(299, 1));
        Check.throwing(yard, "block 8 of depth 7", Check.ARGUMENT, () -> yard.block(300, 7));
    }

    private static void drawnOverABlock() {
        HatbandYard yard = yardOf("beaver", 500, 5, 10);
        Check.widths(yard, 0, 716, 626, 536, 445, 356, 265);
        yard.block(700, 1);
        Check.due("draw", yard.draw(0, 0), 0);
        Check.widths(yard, 0, 700, 630, 560, 490, 420, 350);
        for (int band = 0; band < 6; band++) {
            Check.due("the height stays", yard.about(0, band, 1), 33);
            int area = 33 * (700 - 70 * band);
            Check.due("thickness, drawn", yard.about(0, band, 3), yard.about(0, band, 2) * 100000 / area);
        }
        Check.due("drawn over the same", yard.draw(0, 0), 0);
        Check.widths(yard, 0, 700, 630, 560, 490, 420, 350);
    }

    private static int[] widthsOfBlock(int size, int depth) {
        int[] widths = new int[6];
        for (int band = 0; band < 6; band++) {
            widths[band] = band < depth ? size : widths[band - 1] - size / 10;
        }
        return widths;
    }

    // Each size is the least that the cone bears after the one ahead of it.
    private static void drawnAgainDownwards() {
        HatbandYard yard = yardOf("hare", 500, 0, 7);
        Check.widths(yard, 0, 719, 629, 539, 448, 358, 267);
        int[] sizes = {670, 623, 579, 538, 503, 467, 435, 404};
        for (int block = 0; block < sizes.length; block++) {
            int size = sizes[block];
            yard.block(size, 1);
            Check.due("draw over " + size, yard.draw(0, block), 0);
            Check.widths(yard, 0, widthsOfBlock(size, 1));
        }
        Check.due("back over 538: band 5 from 204 to 273, 33 of 100", yard.draw(0, 3), 2);
        Check.widths(yard, 0, 404, 364, 324, 284, 244, 204);
        Check.due("back over 503: band 5 from 204 to 253, 24 of 100", yard.draw(0, 4), 0);
        Check.widths(yard, 0, 503, 453, 403, 353, 303, 253);
        Check.due("down over 404: 503 shrunk is 467", yard.draw(0, 7), 3);
        Check.widths(yard, 0, 503, 453, 403, 353, 303, 253);
    }

    // A tenth of the size, rounded down, and no more than that, also where it is below 50.
    private static void widthsOfLeastAndMost() {
        tornAtTheTip("wool", 310);
        tornAtTheTip("wool", 300);
        tornAtTheTip("rabbit", 402);
        tornAtTheTip("hare", 463);
        drawnDownTo(373, 336, 299, 262, 225, 188);
        drawnDownTo(379, 342, 305, 268, 231, 194);
        drawnDownTo(380, 342, 304, 266, 228, 190);
        drawnDownTo(389, 351, 313, 275, 237, 199);
        drawnDownTo(390, 351, 312, 273, 234, 195);
    }

    private static void tornAtTheTip(String fur, int size) {
        HatbandYard yard = yardOf(fur, 500, 0, 12);
        yard.block(size, 1);
        Check.due(fur + " after 12 over " + size, yard.draw(0, 0), 2);
    }

    private static void drawnDownTo(int... due) {
        HatbandYard yard = yardOf("hare", 500, 0, 8);
        int[] sizes = {621, 577, 536, 498, 465, 433, 402, due[0]};
        for (int block = 0; block < sizes.length; block++) {
            yard.block(sizes[block], 1);
            Check.due("down over " + sizes[block], yard.draw(0, block), 0);
        }
        Check.widths(yard, 0, due);
        Check.due("brim on the edge", yard.brim(0, 100), Float.floatToIntBits(200f * 3.14159f / due[0]));
    }

    private static void drawnOrNot(String fur, int cycles, int size, int due) {
        HatbandYard yard = yardOf(fur, 500, 3, cycles);
        yard.block(size, 1);
        String draw = fur + " after " + cycles + " over " + size;
        int[] before = {0, 0, 0, 0, 0, 0};
        for (int band = 0; band < 6; band++) {
            before[band] = yard.about(0, band, 0);
        }
        Check.due(draw, yard.draw(0, 0), due);
        Check.widths(yard, 0, due == 0 ? widthsOfBlock(size, 1) : before);
    }

    // Beaver and hare bear these alone, and of depth 1 alone; wool and rabbit tear or are too wide.
    private static void furThatBearsABlock() {
        drawnOrNot("beaver", 10, 679, 3);
        drawnOrNot("beaver", 10, 680, 0);
        drawnOrNot("beaver", 11, 645, 3);
        drawnOrNot("beaver", 11, 646, 0);
        drawnOrNot("beaver", 11, 676, 0);
        drawnOrNot("beaver", 11, 677, 2);
        drawnOrNot("beaver", 11, 679, 2);
        drawnOrNot("beaver", 11, 680, 0);
        drawnOrNot("beaver", 11, 681, 0);
        drawnOrNot("beaver", 11, 682, 2);
        drawnOrNot("beaver", 12, 612, 3);
        drawnOrNot("beaver", 12, 613, 0);
        drawnOrNot("hare", 7, 669, 2);
        drawnOrNot("hare", 7, 670, 0);
        drawnOrNot("hare", 7, 671, 0);
        drawnOrNot("hare", 7, 672, 2);
        drawnOrNot("hare", 8, 620, 3);
        drawnOrNot("hare", 8, 621, 0);
        drawnOrNot("hare", 8, 622, 0);
        drawnOrNot("hare", 8, 623, 2);
    }

    // The due numbers were counted apart from this, by the document's words in another language.
    private static void everyBlockOnEachFur() {
        answersOf("rabbit", 500, 3, 0, 0, 17881, 13397);
        answersOf("wool", 500, 3, 0, 0, 21234, 10044);
        answersOf("beaver", 500, 3, 84, 0, 9322, 21872);
        answersOf("hare", 500, 3, 4, 0, 15361, 15913);
        answersOf("beaver", 150, 0, 84, 4812, 9035, 17347);
    }

    // All sizes and depths of blocks, each on a new cone of 0 to 12 cycles.
    private static void answersOf(String fur, int grams, int taper, int... due) {
        int[] told = new int[4];
        for (int cycles = 0; cycles <= 12; cycles++) {
            for (int size = 300; size <= 700; size++) {
                for (int depth = 1; depth <= 6; depth++) {
                    HatbandYard yard = yardOf(fur, grams, taper, cycles);
                    told[yard.draw(0, yard.block(size, depth))]++;
                }
            }
        }
        for (int answer = 0; answer < 4; answer++) {
            Check.due(fur + " of " + grams + ", times that draw told " + answer, told[answer], due[answer]);
        }
    }

    private static void holesComeFirst() {
        HatbandYard thin = yardOf("beaver", 40, 0, 0);
        thin.block(700, 1);
        Check.due("a thin cone", thin.draw(0, 0), 1);
        Check.widths(thin, 0, 1200, 1050, 900, 750, 600, 450);
        holeOrNot("rabbit", 155, 0, 1, 39, 1);
        holeOrNot("rabbit", 159, 0, 0, 40, 3);
        holeOrNot("rabbit", 136, 1, 1, 40, 3);
        holeOrNot("rabbit", 116, 2, 0, 39, 1);
    }

    // The named band is the thinnest, the others are above 40.
    private static void holeOrNot(String fur, int grams, int cycles, int band, int thick, int want) {
        HatbandYard yard = yardOf(fur, grams, 0, cycles);
        yard.block(300, 1);
        Check.due(grams + " of " + fur + ", thickness of band " + band, yard.about(0, band, 3), thick);
        Check.due(grams + " of " + fur + ", draw", yard.draw(0, 0), want);
    }

    // Beaver bears 35 of 100: band 5, 238 wide, goes up to 323 (100 * 85 / 238 is 35), not to 324.
    private static void strainOfTheEdge() {
        HatbandYard yard = yardOf("beaver", 500, 0, 12);
        Check.widths(yard, 0, 646, 564, 483, 400, 321, 238);
        yard.block(644, 1);
        yard.block(639, 1);
        yard.block(643, 1);
        Check.due("644: band 5 to 644 - 5 * 64 = 324", yard.draw(0, 0), 2);
        Check.due("639: band 5 to 639 - 5 * 63 = 324", yard.draw(0, 1), 2);
        Check.due("643: band 5 to 643 - 5 * 64 = 323", yard.draw(0, 2), 0);
        Check.widths(yard, 0, 643, 579, 515, 451, 387, 323);
    }

    private static void tornAheadOfTooWide() {
        HatbandYard yard = yardOf("wool", 500, 0, 6);
        Check.widths(yard, 0, 636, 557, 477, 396, 317, 237);
        yard.block(500, 6);
        Check.due("band 0 too wide, band 5 torn", yard.draw(0, 0), 2);
        Check.widths(yard, 0, 636, 557, 477, 396, 317, 237);
    }

    private static void tooWide() {
        HatbandYard yard = yardOf("beaver", 500, 0, 0);
        yard.block(700, 1);
        yard.block(700, 6);
        Check.due("all are too wide", yard.draw(0, 0), 3);
        Check.due("band 5 is torn", yard.draw(0, 1), 2);
        HatbandYard drawn = yardOf("beaver", 500, 0, 10);
        drawn.block(700, 1);
        drawn.block(664, 1);
        drawn.block(665, 1);
        Check.due("over 700", drawn.draw(0, 0), 0);
        Check.due("700 shrunk is 665, above 664", drawn.draw(0, 1), 3);
        Check.widths(drawn, 0, 700, 630, 560, 490, 420, 350);
        Check.due("700 shrunk is 665", drawn.draw(0, 2), 0);
        Check.widths(drawn, 0, 665, 599, 533, 467, 401, 335);
    }

    // Beaver drawn over 700, 1 (700, 630, 560, 490, 420, 350) shows by what tears how wide a block is where.
    private static void blockIsTold() {
        int[] depths = {1, 2, 3, 4, 5, 6};
        int[] due = {0, 0, 2, 2, 2, 2};
        for (int i = 0; i < depths.length; i++) {
            HatbandYard yard = yardOf("beaver", 500, 5, 10);
            yard.block(700, 1);
            yard.draw(0, 0);
            yard.block(700, depths[i]);
            Check.due("700 of depth " + depths[i], yard.draw(0, 1), due[i]);
        }
        HatbandYard yard = yardOf("beaver", 500, 5, 10);
        for (int depth = 1; depth <= 6; depth++) {
            yard.block(700, depth);
            Check.due("700 ever deeper, " + depth, yard.draw(0, depth - 1), 0);
            for (int band = 0; band < 6; band++) {
                int want = 700 - 70 * Math.max(0, band - depth + 1);
                Check.due("depth " + depth + ", band " + band, yard.about(0, band, 0), want);
                Check.due("anew, depth " + depth + ", band " + band, yard.widthAnew(0, band), want);
            }
        }
    }

    private static void numbersThatAreNot() {
        HatbandYard yard = yardOf("beaver", 500, 0, 10);
        yard.block(700, 1);
        for (int number : new int[] {Integer.MIN_VALUE, -1, 1, 7, 8, 11, 12, Integer.MAX_VALUE}) {
            Check.throwing(yard, "draw of cone " + number, Check.INDEX, () -> yard.draw(number, 0));
            Check.throwing(yard, "draw over block " + number, Check.INDEX, () -> yard.draw(0, number));
            Check.throwing(yard, "widthAnew of cone " + number, Check.INDEX, () -> yard.widthAnew(number, 0));
        }
        for (int band : new int[] {Integer.MIN_VALUE, -1, 6, Integer.MAX_VALUE}) {
            Check.throwing(yard, "widthAnew of band " + band, Check.INDEX, () -> yard.widthAnew(0, band));
        }
    }
}
