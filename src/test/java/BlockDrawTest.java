/** Promises 7, 8 and 12: block, draw, widthAnew. */
final class BlockDrawTest {
    public static void main(String[] args) {
        rangeOfSize();
        rangeOfDepth();
        eightBlocksAndNoMore();
        argumentAheadOfState();
        asWideAsTheBlock();
        asWideAsItsSizeBelowTheDepth();
        lessByATenthRoundedDown();
        sameBlockOnceMore();
        drawnAgainDownAndBack();
        strainIsAtMostThatOfTheFur();
        strainIsRoundedDown();
        shrunkIsAtMostAsWide();
        furThatBearsABlock();
        everyBlockOnEachFur();
        thinnerThan40IsAHole();
        aHoleComesWithADraw();
        aHoleIsToldFirst();
        tornIsToldAheadOfTooWide();
        nothingChangesThen();
        drawOfNoConeOrBlock();
        widthAnewIsFollowed();
        widthAnewOfNoConeOrBand();
        Check.end("BlockDrawTest");
    }

    /** "size: 300 to 700". */
    private static void rangeOfSize() {
        Yard yard = new Yard();
        for (int size : new int[] {Integer.MIN_VALUE, -300, 0, 299, 701, Integer.MAX_VALUE}) {
            yard.refuses("block of size " + size, Check.ARGUMENT, y -> y.block(size, 1));
            yard.refuses("block of size " + size, Check.ARGUMENT, y -> y.block(size, 6));
        }
        Check.due("300", yard.block(300, 3), 0);
        Check.due("700", yard.block(700, 3), 1);
        Check.due("301", yard.block(301, 3), 2);
        Check.due("699", yard.block(699, 3), 3);
        Check.due("the same once more", yard.block(700, 3), 4);
    }

    /** "depth: 1 to 6". */
    private static void rangeOfDepth() {
        Yard yard = new Yard();
        for (int depth : new int[] {Integer.MIN_VALUE, -1, 0, 7, Integer.MAX_VALUE}) {
            yard.refuses("block of depth " + depth, Check.ARGUMENT, y -> y.block(300, depth));
            yard.refuses("block of depth " + depth, Check.ARGUMENT, y -> y.block(700, depth));
            yard.refuses("block of no size and depth " + depth, Check.ARGUMENT, y -> y.block(0, depth));
        }
        for (int depth = 1; depth <= 6; depth++) {
            Check.due("block of depth " + depth, yard.block(500, depth), depth - 1);
        }
    }

    private static Yard withEightBlocks() {
        Yard yard = Yard.withCone("beaver", 500, 0, 10);
        for (int block = 0; block < 8; block++) {
            Check.due("block " + block, yard.block(687 + block, 1), block);
        }
        return yard;
    }

    /** "Blocks are numbered from 0, at most 8", "IllegalStateException if there are 8". */
    private static void eightBlocksAndNoMore() {
        Yard yard = withEightBlocks();
        yard.refuses("ninth block", Check.STATE, y -> y.block(300, 1));
        yard.refuses("ninth block, deep", Check.STATE, y -> y.block(700, 6));
        yard.refuses("draw over block 8", Check.INDEX, y -> y.draw(0, 8));
        for (int block = 7; block >= 0; block--) {
            Check.due("draw over block " + block, yard.draw(0, block), 0);
            Check.due("width by block " + block, yard.about(0, 0, 0), 687 + block);
        }
        yard.refuses("ninth block, where all were drawn over", Check.STATE, y -> y.block(500, 3));
    }

    private static void argumentAheadOfState() {
        Yard yard = withEightBlocks();
        yard.refuses("ninth block of size 299", Check.ARGUMENT, y -> y.block(299, 1));
        yard.refuses("ninth block of size 701", Check.ARGUMENT, y -> y.block(701, 1));
        yard.refuses("ninth block of depth 0", Check.ARGUMENT, y -> y.block(300, 0));
        yard.refuses("ninth block of depth 7", Check.ARGUMENT, y -> y.block(300, 7));
    }

    /** "Drawn, all bands are as wide as the block; the heights stay." */
    private static void asWideAsTheBlock() {
        Yard yard = Yard.withCone("beaver", 500, 5, 10);
        yard.cone(0, 500, 5);
        yard.hasWidths(0, 716, 626, 536, 445, 356, 265);
        yard.block(700, 1);
        Check.due("draw", yard.draw(0, 0), 0);
        yard.hasWidths(0, 700, 630, 560, 490, 420, 350);
        int[] grams = {39, 55, 74, 92, 111, 129};
        int[] thick = {168, 264, 400, 568, 800, 1116};
        for (int band = 0; band < 6; band++) {
            Check.due("the height stays", yard.about(0, band, 1), 33);
            Check.due("the grams stay", yard.about(0, band, 2), grams[band]);
            Check.due("thickness, drawn", yard.about(0, band, 3), thick[band]);
        }
        yard.hasWidths(1, 1200, 1050, 900, 750, 600, 450);
    }

    /** "for bands below the depth the block is as wide as its size": 700 ever deeper, by draws that all succeed. */
    private static void asWideAsItsSizeBelowTheDepth() {
        Yard yard = Yard.withCone("beaver", 500, 5, 10);
        int[][] due = {{700, 630, 560, 490, 420, 350}, {700, 700, 630, 560, 490, 420}, {700, 700, 700, 630, 560, 490},
            {700, 700, 700, 700, 630, 560}, {700, 700, 700, 700, 700, 630}, {700, 700, 700, 700, 700, 700}};
        for (int depth = 1; depth <= 6; depth++) {
            yard.block(700, depth);
            Check.due("700 ever deeper, " + depth, yard.draw(0, depth - 1), 0);
            yard.hasWidths(0, due[depth - 1]);
        }
    }

    // The 50 is the least width (issue 5); no block comes to it, as even (300, 1) is 150 wide at its band 5.
    /** "less than for the band below it, by a tenth of the size of the block, rounded down". */
    private static void lessByATenthRoundedDown() {
        drawnDownTo(373, 336, 299, 262, 225, 188);
        drawnDownTo(379, 342, 305, 268, 231, 194);
        drawnDownTo(380, 342, 304, 266, 228, 190);
        drawnDownTo(389, 351, 313, 275, 237, 199);
        drawnDownTo(390, 351, 312, 273, 234, 195);
        tornAtTheTip("wool", 310);
        tornAtTheTip("wool", 300);
        tornAtTheTip("rabbit", 402);
        tornAtTheTip("hare", 463);
    }

    private static void tornAtTheTip(String fur, int size) {
        Yard yard = Yard.withCone(fur, 500, 0, 12);
        yard.block(size, 1);
        Check.due(fur + " after 12 over " + size, yard.draw(0, 0), 2);
    }

    private static void drawnDownTo(int... due) {
        Yard yard = Yard.withCone("hare", 500, 0, 8);
        int[] sizes = {621, 577, 536, 498, 465, 433, 402, due[0]};
        for (int block = 0; block < sizes.length; block++) {
            yard.block(sizes[block], 1);
            Check.due("down over " + sizes[block], yard.draw(0, block), 0);
        }
        yard.hasWidths(0, due);
        Check.dueFloat("brim on the edge", yard.brim(0, 100), 200f * 3.14159f / due[0]);
    }

    /** "also if it was drawn over one before": the same block is neither wider nor narrower. */
    private static void sameBlockOnceMore() {
        Yard yard = Yard.withCone("beaver", 500, 5, 10);
        yard.block(680, 1);
        yard.block(680, 1);
        Check.due("draw", yard.draw(0, 0), 0);
        Check.due("draw over the same", yard.draw(0, 0), 0);
        Check.due("draw over one alike", yard.draw(0, 1), 0);
        yard.hasWidths(0, 680, 612, 544, 476, 408, 340);
    }

    private static int[] widthsOfBlock(int size, int depth) {
        int[] widths = new int[6];
        for (int band = 0; band < 6; band++) {
            widths[band] = band < depth ? size : widths[band - 1] - size / 10;
        }
        return widths;
    }

    // Each size is the least that the cone bears after the one ahead of it.
    private static void drawnAgainDownAndBack() {
        Yard yard = Yard.withCone("hare", 500, 0, 7);
        yard.hasWidths(0, 719, 629, 539, 448, 358, 267);
        int[] sizes = {670, 623, 579, 538, 503, 467, 435, 404};
        for (int block = 0; block < sizes.length; block++) {
            int size = sizes[block];
            yard.block(size, 1);
            Check.due("draw over " + size, yard.draw(0, block), 0);
            yard.hasWidths(0, widthsOfBlock(size, 1));
        }
        Check.due("back over 538: band 5 from 204 to 273, 33 of 100", yard.draw(0, 3), 2);
        yard.hasWidths(0, 404, 364, 324, 284, 244, 204);
        Check.due("back over 503: band 5 from 204 to 253, 24 of 100", yard.draw(0, 4), 0);
        yard.hasWidths(0, 503, 453, 403, 353, 303, 253);
        Check.due("down over 404: 503 shrunk is 467", yard.draw(0, 7), 3);
        yard.hasWidths(0, 503, 453, 403, 353, 303, 253);
    }

    private static int toldOf(String fur, int grams, int cycles, int size, int depth) {
        Yard yard = Yard.withCone(fur, grams, 0, cycles);
        yard.block(size, depth);
        return yard.draw(0, 0);
    }

    /** "they bear a strain of 20, 15, 35 and 25 of 100": the band 5, 450 wide as formed, over blocks of depth 6. */
    private static void strainIsAtMostThatOfTheFur() {
        Check.due("rabbit, 20.0 of 100", toldOf("rabbit", 500, 0, 540, 6), 3);
        Check.due("rabbit, 20.8 of 100", toldOf("rabbit", 500, 0, 544, 6), 3);
        Check.due("rabbit, 21.1 of 100", toldOf("rabbit", 500, 0, 545, 6), 2);
        Check.due("wool, 15.1 of 100", toldOf("wool", 500, 0, 518, 6), 3);
        Check.due("wool, 15.7 of 100", toldOf("wool", 500, 0, 521, 6), 3);
        Check.due("wool, 16.0 of 100", toldOf("wool", 500, 0, 522, 6), 2);
        Check.due("beaver, 35.1 of 100", toldOf("beaver", 500, 0, 608, 6), 3);
        Check.due("beaver, 35.7 of 100", toldOf("beaver", 500, 0, 611, 6), 3);
        Check.due("beaver, 36.0 of 100", toldOf("beaver", 500, 0, 612, 6), 2);
        Check.due("hare, 25.1 of 100", toldOf("hare", 500, 0, 563, 6), 3);
        Check.due("hare, 25.7 of 100", toldOf("hare", 500, 0, 566, 6), 3);
        Check.due("hare, 26.0 of 100", toldOf("hare", 500, 0, 567, 6), 2);
    }

    /** "100 times what it is wider, divided by the band's width, rounded down": up to 323 of 238, 35.7 of 100. */
    private static void strainIsRoundedDown() {
        Yard yard = Yard.withCone("beaver", 500, 0, 12);
        yard.hasWidths(0, 646, 564, 483, 400, 321, 238);
        yard.block(644, 1);
        yard.block(639, 1);
        yard.block(643, 1);
        Check.due("644: band 5 to 644 - 5 * 64 = 324", yard.draw(0, 0), 2);
        Check.due("639: band 5 to 639 - 5 * 63 = 324", yard.draw(0, 1), 2);
        Check.due("643: band 5 to 643 - 5 * 64 = 323", yard.draw(0, 2), 0);
        yard.hasWidths(0, 643, 579, 515, 451, 387, 323);
    }

    /** "the band shrunk as by a cycle across is at most as wide as the block". */
    private static void shrunkIsAtMostAsWide() {
        Yard beaver = Yard.withCone("beaver", 500, 0, 10);
        beaver.block(679, 1);
        beaver.block(680, 1);
        beaver.block(645, 1);
        beaver.block(646, 1);
        Check.due("716 shrunk is 680, above 679", beaver.draw(0, 0), 3);
        Check.due("716 shrunk is 680", beaver.draw(0, 1), 0);
        Check.due("680 shrunk is 646, above 645", beaver.draw(0, 2), 3);
        beaver.hasWidths(0, 680, 612, 544, 476, 408, 340);
        Check.due("680 shrunk is 646", beaver.draw(0, 3), 0);
        beaver.hasWidths(0, 646, 582, 518, 454, 390, 326);
        Yard hare = Yard.withCone("hare", 500, 0, 8);
        hare.block(620, 1);
        hare.block(621, 1);
        Check.due("668 shrunk is 621, above 620", hare.draw(0, 0), 3);
        Check.due("668 shrunk is 621", hare.draw(0, 1), 0);
        bandsTooWideAlone();
    }

    private static void bandsTooWideAlone() {
        Check.due("band 0 alone, 836 shrunk is 794", toldOf("beaver", 500, 7, 694, 2), 3);
        Yard yard = Yard.withCone("beaver", 500, 0, 12);
        yard.block(634, 1);
        yard.block(602, 1);
        Check.due("down to 634, 571, 508, 445, 382, 319", yard.draw(0, 0), 0);
        Check.due("band 5 alone, 319 shrunk is 303, above 302", yard.draw(0, 1), 3);
    }

    private static void drawnOrNot(String fur, int cycles, int size, int due) {
        Yard yard = Yard.withCone(fur, 500, 3, cycles);
        yard.block(size, 1);
        String draw = fur + " after " + cycles + " over " + size;
        int[] before = {0, 0, 0, 0, 0, 0};
        for (int band = 0; band < 6; band++) {
            before[band] = yard.about(0, band, 0);
        }
        Check.due(draw, yard.draw(0, 0), due);
        yard.hasWidths(0, due == 0 ? widthsOfBlock(size, 1) : before);
    }

    // Beaver and hare bear these alone, and of depth 1 alone; wool and rabbit tear or are too wide.
    private static void furThatBearsABlock() {
        drawnOrNot("beaver", 10, 679, 3);
        drawnOrNot("beaver", 10, 680, 0);
        drawnOrNot("beaver", 11, 645, 3);
        drawnOrNot("beaver", 11, 646, 0);
        drawnOrNot("beaver", 11, 676, 0);
        drawnOrNot("beaver", 11, 677, 2);
        drawnOrNot("beaver", 11, 679, 2);
        drawnOrNot("beaver", 11, 680, 0);
        drawnOrNot("beaver", 11, 681, 0);
        drawnOrNot("beaver", 11, 682, 2);
        drawnOrNot("beaver", 12, 612, 3);
        drawnOrNot("beaver", 12, 613, 0);
        drawnOrNot("hare", 7, 669, 2);
        drawnOrNot("hare", 7, 670, 0);
        drawnOrNot("hare", 7, 671, 0);
        drawnOrNot("hare", 7, 672, 2);
        drawnOrNot("hare", 8, 620, 3);
        drawnOrNot("hare", 8, 621, 0);
        drawnOrNot("hare", 8, 622, 0);
        drawnOrNot("hare", 8, 623, 2);
    }

    // The due numbers were counted apart from this, by the document's words in another language.
    private static void everyBlockOnEachFur() {
        answersOf("rabbit", 500, 3, 0, 0, 17881, 13397);
        answersOf("wool", 500, 3, 0, 0, 21234, 10044);
        answersOf("beaver", 500, 3, 84, 0, 9322, 21872);
        answersOf("hare", 500, 3, 4, 0, 15361, 15913);
        answersOf("beaver", 150, 0, 84, 4812, 9035, 17347);
    }

    // All sizes and depths of blocks, each on a new cone of 0 to 12 cycles.
    private static void answersOf(String fur, int grams, int taper, int... due) {
        int[] told = new int[4];
        for (int cycles = 0; cycles <= 12; cycles++) {
            for (int size = 300; size <= 700; size++) {
                for (int depth = 1; depth <= 6; depth++) {
                    Yard yard = Yard.withCone(fur, grams, taper, cycles);
                    told[yard.draw(0, yard.block(size, depth))]++;
                }
            }
        }
        for (int answer = 0; answer < 4; answer++) {
            Check.due(fur + " of " + grams + ", times that draw told " + answer, told[answer], due[answer]);
        }
    }

    /** "A cone has a hole, if some band is thinner than 40." */
    private static void thinnerThan40IsAHole() {
        holeOrNot("rabbit", 155, 0, 1, 39, 1);
        holeOrNot("rabbit", 159, 0, 0, 40, 3);
        holeOrNot("rabbit", 136, 1, 1, 40, 3);
        holeOrNot("rabbit", 116, 2, 0, 39, 1);
        Check.due("the least grams", toldOf("wool", 10, 0, 300, 1), 1);
        Yard felted = Yard.withCone("wool", 60, 0, 0);
        felted.block(300, 1);
        Check.due("a hole as formed", felted.draw(0, 0), 1);
        felted.cycles(0, 0, 12);
        Check.due("no hole after 12 cycles", felted.draw(0, 0), 2);
    }

    // The named band is the thinnest, the others are above 40.
    private static void holeOrNot(String fur, int grams, int cycles, int band, int thick, int want) {
        Yard yard = Yard.withCone(fur, grams, 0, cycles);
        yard.block(300, 1);
        Check.due(grams + " of " + fur + ", thickness of band " + band, yard.about(0, band, 3), thick);
        Check.due(grams + " of " + fur + ", draw", yard.draw(0, 0), want);
    }

    // A band of 9 grams and 33 high is 43 thick where it is 630 wide, and 38 where it is 700 wide.
    /** "if it has no hole", "also if it was drawn over one before": the widths that a draw gave count for the next. */
    private static void aHoleComesWithADraw() {
        Yard yard = Yard.withCone("beaver", 55, 0, 10);
        yard.block(700, 1);
        yard.block(700, 2);
        Check.due("over 700", yard.draw(0, 0), 0);
        Check.due("over 700 of depth 2", yard.draw(0, 1), 0);
        Check.due("thickness of band 0", yard.about(0, 0, 3), 43);
        Check.due("thickness of band 1", yard.about(0, 1, 3), 38);
        Check.due("over 700 of depth 2 once more", yard.draw(0, 1), 1);
        Check.due("back over 700", yard.draw(0, 0), 1);
        yard.hasWidths(0, 700, 700, 630, 560, 490, 420);
    }

    /** "the first that is so of all": 1 ahead of 2, of 3, and of both. */
    private static void aHoleIsToldFirst() {
        Check.due("a hole alone", toldOf("beaver", 40, 10, 700, 1), 1);
        Check.due("the same without a hole", toldOf("beaver", 60, 10, 700, 1), 0);
        Check.due("a hole, and torn", toldOf("wool", 10, 12, 700, 6), 1);
        Check.due("torn alone", toldOf("wool", 500, 12, 700, 6), 2);
        Check.due("a hole, and too wide", toldOf("beaver", 40, 0, 700, 1), 1);
        Check.due("too wide alone", toldOf("beaver", 500, 0, 700, 1), 3);
        Check.due("a hole, torn and too wide", toldOf("rabbit", 40, 0, 700, 6), 1);
        Check.due("torn and too wide", toldOf("rabbit", 500, 0, 700, 6), 2);
    }

    /** "2 ahead of 3, whatever bands". */
    private static void tornIsToldAheadOfTooWide() {
        Check.due("band 0 too wide, band 5 torn", toldOf("wool", 500, 6, 500, 6), 2);
        Yard yard = Yard.withCone("hare", 500, 0, 8);
        int[] sizes = {621, 578, 543};
        int[] depths = {1, 2, 4};
        for (int block = 0; block < 3; block++) {
            yard.block(sizes[block], depths[block]);
            Check.due("draw over " + sizes[block], yard.draw(0, block), 0);
        }
        yard.hasWidths(0, 543, 543, 543, 543, 489, 435);
        yard.block(700, 1);
        Check.due("band 0 torn, to 700, band 4 too wide, to 420", yard.draw(0, 3), 2);
        Yard alone = Yard.withCone("hare", 500, 0, 8);
        int[] others = {622, 582, 550};
        for (int block = 0; block < 3; block++) {
            alone.block(others[block], block < 2 ? 1 : 2);
            Check.due("draw over " + others[block], alone.draw(0, block), 0);
        }
        alone.block(700, 1);
        Check.due("band 0 alone torn, from 550 to 700", alone.draw(0, 3), 2);
    }

    private static void unchangedBy(Yard yard, int block, int told) {
        Yard with = yard.twin();
        Check.due("draw that is not made", with.draw(0, block), told);
        for (Look look : Look.values()) {
            Yard looked = with.twin();
            Check.same("behind a draw that told " + told + ", by " + look, look.at(looked), look.at(yard.twin()));
        }
    }

    /** "nothing changes then", of a cone as it was felted and of one that is drawn. */
    private static void nothingChangesThen() {
        Yard hole = Yard.withCone("beaver", 40, 0, 3);
        hole.block(700, 1);
        unchangedBy(hole, 0, 1);
        Yard felted = Yard.withCone("beaver", 500, 0, 3);
        felted.block(700, 6);
        felted.block(700, 1);
        unchangedBy(felted, 0, 2);
        unchangedBy(felted, 1, 3);
        Yard drawn = Yard.withCone("beaver", 500, 0, 10);
        drawn.block(700, 1);
        drawn.block(700, 6);
        drawn.block(664, 1);
        Check.due("draw", drawn.draw(0, 0), 0);
        unchangedBy(drawn, 1, 2);
        unchangedBy(drawn, 2, 3);
        drawn.type("egret");
        unchangedBy(drawn, 1, 2);
    }

    private static void drawOfNoConeOrBlock() {
        Yard yard = Yard.withCone("beaver", 500, 0, 10);
        yard.block(700, 1);
        for (int number : new int[] {Integer.MIN_VALUE, -1, 1, 7, 8, 11, 12, Integer.MAX_VALUE}) {
            yard.refuses("draw of cone " + number, Check.INDEX, y -> y.draw(number, 0));
            yard.refuses("draw over block " + number, Check.INDEX, y -> y.draw(0, number));
            yard.refuses("draw of neither", Check.INDEX, y -> y.draw(number, number));
        }
        Check.due("draw of both", yard.draw(0, 0), 0);
        yard.refuses("draw of a drawn cone over no block", Check.INDEX, y -> y.draw(0, 1));
    }

    /** "the width of a band, followed from its forming on". */
    private static void widthAnewIsFollowed() {
        Yard yard = Yard.withCone("hare", 500, 0, 0);
        int[][] due = {{1200, 1050, 900, 750, 600, 450}, {1116, 976, 837, 697, 558, 418}, {1037, 907, 778, 648, 518, 388},
            {964, 843, 723, 602, 481, 360}};
        for (int[] widths : due) {
            yard.hasWidths(0, widths);
            yard.cycles(0, 0, 1);
        }
        yard.cycles(0, 0, 3);
        yard.hasWidths(0, 719, 629, 539, 448, 358, 267);
        yard.block(670, 1);
        yard.block(623, 1);
        yard.draw(0, 0);
        yard.hasWidths(0, 670, 603, 536, 469, 402, 335);
        yard.draw(0, 1);
        yard.hasWidths(0, 623, 561, 499, 437, 375, 313);
        yard.hasWidths(0, 623, 561, 499, 437, 375, 313);
        Yard.withCone("wool", 500, 0, 12).hasWidths(0, 335, 294, 252, 209, 167, 123);
    }

    private static void widthAnewOfNoConeOrBand() {
        Yard yard = Yard.withCone("beaver", 500, 0, 10);
        yard.block(700, 1);
        for (int made = 0; made < 2; made++) {
            for (int number : new int[] {Integer.MIN_VALUE, -1, 1, 11, 12, Integer.MAX_VALUE}) {
                yard.refuses("widthAnew of cone " + number, Check.INDEX, y -> y.widthAnew(number, 0));
                yard.refuses("widthAnew of neither", Check.INDEX, y -> y.widthAnew(number, 6));
            }
            for (int band : new int[] {Integer.MIN_VALUE, -1, 6, 7, Integer.MAX_VALUE}) {
                yard.refuses("widthAnew of band " + band, Check.INDEX, y -> y.widthAnew(0, band));
            }
            yard.draw(0, 0);
        }
    }
}
