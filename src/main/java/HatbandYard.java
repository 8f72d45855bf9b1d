/** Felt, straw and feather: the yard that ../shared/DOC.md describes, promise by promise. */
public final class HatbandYard {
    /** There is none. */
    public static final int NONE = -1;

    private static final int MOST_LETTERS = 7;
    private static final int MOST_LOTS = 10;
    private static final int MOST_CONES = 12;
    private static final int MOST_HANDS = 6;
    private static final int MOST_BLOCKS = 8;
    private static final int MOST_CYCLES = 12;
    private static final int MOST_AIR_A_DAY = 30;
    private static final int DAYS_A_YEAR = 10;
    private static final int BANDS = 6;
    private static final int RADII = 8;
    private static final int LANDS = 4;
    private static final int MOST_EASE = 12;
    private static final int DRAWN = 0;
    private static final int HAS_A_HOLE = 1;
    private static final int IS_TORN = 2;
    private static final int IS_TOO_WIDE = 3;

    private static final Fur[] FURS = Fur.values();
    private static final Feather[] FEATHERS = Feather.values();
    private static final Spiral[] SPIRALS = Spiral.values();

    private final StringBuilder typed = new StringBuilder();
    private final Lot[] lots = new Lot[MOST_LOTS];
    private final Cone[] cones = new Cone[MOST_CONES];
    private final Hand[] hands = new Hand[MOST_HANDS];
    private final Block[] blocks = new Block[MOST_BLOCKS];
    private final Head head = new Head();
    private int lotCount = 0;
    private int coneCount = 0;
    private int handCount = 0;
    private int blockCount = 0;
    private int dayCount = 0;

    public HatbandYard() {
    }

    // ---- words, lots, cones

    public int letter(char letter) throws IllegalArgumentException, IllegalStateException {
        refuseOutside(letter, 'a', 'z');
        refuseFull(typed.length(), MOST_LETTERS);
        typed.append(letter);
        return typed.length();
    }

    public int lot(int grams) throws IllegalArgumentException, IllegalStateException {
        refuseOutside(grams, 1, 5000);
        refuseFull(lotCount, lots.length);
        Fur fur = typedFur();
        clearTyped();
        if (fur == null) {
            return NONE;
        }
        lots[lotCount] = new Lot(fur, grams);
        lotCount++;
        return lotCount - 1;
    }

    public int cone(int lot, int grams, int taper)
            throws IndexOutOfBoundsException, IllegalArgumentException, IllegalStateException {
        Lot source = lotAt(lot);
        refuseOutside(grams, 10, 500);
        refuseOutside(taper, 0, 5);
        refuseFull(coneCount, cones.length);
        if (source.gramsLeft < grams) {
            throw new IllegalStateException("the lot has not so much");
        }
        source.gramsLeft -= grams;
        cones[coneCount] = new Cone(source.fur, grams, taper);
        coneCount++;
        return coneCount - 1;
    }

    public int hand() throws IllegalStateException {
        refuseFull(handCount, hands.length);
        hands[handCount] = new Hand();
        handCount++;
        return handCount - 1;
    }

    public int cycle(int cone, int hand) throws IndexOutOfBoundsException, IllegalStateException {
        Cone felted = coneAt(cone);
        Hand felter = handAt(hand);
        if (felter.airToday + felted.fur.airOfCycle > MOST_AIR_A_DAY) {
            throw new IllegalStateException("too much air for the hand today");
        }
        if (felted.lastBlock != null) {
            throw new IllegalStateException("the cone was drawn over a block");
        }
        refuseFull(felted.cycleCount, MOST_CYCLES);
        felter.breathe(felted.fur.airOfCycle);
        felted.shrink();
        return felted.widthOf(0);
    }

    // ---- blocks, trims, days

    public int block(int size, int depth) throws IllegalArgumentException, IllegalStateException {
        refuseOutside(size, 300, 700);
        refuseOutside(depth, 1, 6);
        refuseFull(blockCount, blocks.length);
        blocks[blockCount] = new Block(size, depth);
        blockCount++;
        return blockCount - 1;
    }

    public int draw(int cone, int block) throws IndexOutOfBoundsException {
        Cone drawn = coneAt(cone);
        Block under = blockAt(block);
        int refusal = drawn.refusalOf(under);
        if (refusal == DRAWN) {
            drawn.stretchOver(under);
        }
        return refusal;
    }

    public boolean trim(int cone) throws IndexOutOfBoundsException, IllegalStateException {
        Cone trimmed = coneAt(cone);
        if (trimmed.isTrimmed) {
            throw new IllegalStateException("the cone is trimmed");
        }
        Feather feather = typedFeather();
        clearTyped();
        trimmed.isTrimmed = feather != null && feather.isAllowedIn(year());
        return trimmed.isTrimmed;
    }

    public int pass(int days) throws IllegalArgumentException {
        refuseOutside(days, 1, 30);
        dayCount += days;
        for (Hand hand : hands) {
            if (hand != null) {
                hand.airToday = 0;
            }
        }
        return year();
    }

    // ---- questions

    public int about(int cone, int band, int what) throws IndexOutOfBoundsException, IllegalArgumentException {
        Cone asked = coneAt(cone);
        refuseNoSuch(band, BANDS);
        refuseOutside(what, 0, 3);
        switch (what) {
            case 0:
                return asked.widthOf(band);
            case 1:
                return asked.height;
            case 2:
                return asked.gramsOf(band);
            default:
                return asked.thicknessOf(band);
        }
    }

    public int widthAnew(int cone, int band) throws IndexOutOfBoundsException {
        Cone asked = coneAt(cone);
        refuseNoSuch(band, BANDS);
        return asked.widthFollowed(band);
    }

    public int brim(int cone, int width) throws IndexOutOfBoundsException, IllegalArgumentException {
        Cone asked = coneAt(cone);
        refuseOutside(width, 10, 150);
        int edge = asked.widthOf(0);
        if (edge <= 0) {
            return 0;
        }
        return bitsOf((float) (2 * width) * 3.14159f / (float) edge);
    }

    public int count(int rows) throws IllegalArgumentException {
        refuseOutside(rows, 1, 100);
        Spiral spiral = typedSpiral();
        clearTyped();
        return spiral == null ? NONE : spiral.stitchesRowByRow(rows);
    }

    public int countAnew(int rows) throws IllegalArgumentException {
        refuseOutside(rows, 1, 100);
        Spiral spiral = typedSpiral();
        clearTyped();
        return spiral == null ? NONE : spiral.stitchesAtOnce(rows);
    }

    public int rows(int stitches) throws IllegalArgumentException {
        refuseOutside(stitches, 1, 2000);
        Spiral spiral = typedSpiral();
        clearTyped();
        return spiral == null ? NONE : spiral.rowsToClose(stitches);
    }

    public int measure(int radius, int length) throws IndexOutOfBoundsException, IllegalArgumentException {
        refuseNoSuch(radius, RADII);
        refuseOutside(length, 0, 200);
        head.setRadius(radius, length);
        return head.around();
    }

    public boolean fits(int cone) throws IndexOutOfBoundsException {
        int ease = coneAt(cone).widthOf(0) - head.around();
        return ease >= 0 && ease <= MOST_EASE;
    }

    public int size(int land) throws IndexOutOfBoundsException {
        refuseNoSuch(land, LANDS);
        return bitsOf(head.sizeIn(land));
    }

    public int air(int hand, boolean isToday) throws IndexOutOfBoundsException {
        Hand asked = handAt(hand);
        return isToday ? asked.airToday : asked.airEver;
    }

    public int grams(int lot) throws IndexOutOfBoundsException {
        return lotAt(lot).gramsLeft;
    }

    // ---- what is refused

    private static void refuseOutside(int value, int least, int most) {
        if (value < least || value > most) {
            throw new IllegalArgumentException("an argument is out of its range");
        }
    }

    private static void refuseFull(int number, int most) {
        if (number >= most) {
            throw new IllegalStateException("there are as many as there may be");
        }
    }

    private static void refuseNoSuch(int number, int howMany) {
        if (number < 0 || number >= howMany) {
            throw new IndexOutOfBoundsException("there is no such number");
        }
    }

    private Lot lotAt(int number) {
        refuseNoSuch(number, lots.length);
        Lot found = lots[number];
        if (found == null) {
            throw new IndexOutOfBoundsException("there is no such lot");
        }
        return found;
    }

    private Cone coneAt(int number) {
        refuseNoSuch(number, cones.length);
        Cone found = cones[number];
        if (found == null) {
            throw new IndexOutOfBoundsException("there is no such cone");
        }
        return found;
    }

    private Hand handAt(int number) {
        refuseNoSuch(number, hands.length);
        Hand found = hands[number];
        if (found == null) {
            throw new IndexOutOfBoundsException("there is no such hand");
        }
        return found;
    }

    private Block blockAt(int number) {
        refuseNoSuch(number, blocks.length);
        Block found = blocks[number];
        if (found == null) {
            throw new IndexOutOfBoundsException("there is no such block");
        }
        return found;
    }

    // ---- the word that is typed

    private Fur typedFur() {
        for (Fur fur : FURS) {
            if (isTyped(fur.word)) {
                return fur;
            }
        }
        return null;
    }

    private Feather typedFeather() {
        for (Feather feather : FEATHERS) {
            if (isTyped(feather.word)) {
                return feather;
            }
        }
        return null;
    }

    private Spiral typedSpiral() {
        for (Spiral spiral : SPIRALS) {
            if (isTyped(spiral.word)) {
                return spiral;
            }
        }
        return null;
    }

    // Letter by letter, since typed.toString() would make a new text at each comparison.
    private boolean isTyped(String word) {
        if (typed.length() != word.length()) {
            return false;
        }
        for (int i = 0; i < word.length(); i++) {
            if (typed.charAt(i) != word.charAt(i)) {
                return false;
            }
        }
        return true;
    }

    private void clearTyped() {
        typed.setLength(0);
    }

    private int year() {
        return dayCount / DAYS_A_YEAR;
    }

    // LANGUAGE.md has no Float.floatToIntBits. All floats here are 0 or between 0.01 and 1000,
    // so halving, doubling and the last product are exact.
    private static int bitsOf(float value) {
        if (!(value > 0.0f)) {
            return 0;
        }
        float part = value;
        int power = 0;
        for (int i = 0; i < 128 && part >= 2.0f; i++) {
            part = part / 2.0f;
            power++;
        }
        for (int i = 0; i < 128 && part < 1.0f; i++) {
            part = part * 2.0f;
            power--;
        }
        return ((power + 127) << 23) | (int) ((part - 1.0f) * 8388608.0f);
    }

    private enum Fur {
        RABBIT("rabbit", 8, 6, 20, 8),
        WOOL("wool", 10, 9, 15, 2),
        BEAVER("beaver", 5, 5, 35, 5),
        HARE("hare", 7, 6, 25, 12);

        private final String word;
        private final int lessAcross;
        private final int lessAlong;
        private final int strain;
        private final int airOfCycle;

        Fur(String word, int lessAcross, int lessAlong, int strain, int airOfCycle) {
            this.word = word;
            this.lessAcross = lessAcross;
            this.lessAlong = lessAlong;
            this.strain = strain;
            this.airOfCycle = airOfCycle;
        }

        private int shrunkAcross(int width) {
            return width * (100 - lessAcross) / 100;
        }

        private int shrunkAlong(int height) {
            return height * (100 - lessAlong) / 100;
        }
    }

    private enum Feather {
        OSTRICH("ostrich", Integer.MAX_VALUE),
        EGRET("egret", 5),
        EAGLE("eagle", 2);

        private final String word;
        private final int protectedFrom;

        Feather(String word, int protectedFrom) {
            this.word = word;
            this.protectedFrom = protectedFrom;
        }

        private boolean isAllowedIn(int year) {
            return year < protectedFrom;
        }
    }

    private enum Spiral {
        FLAT("flat", 6, false),
        CONE("cone", 4, false),
        DOME("dome", 6, true),
        BRIM("brim", 9, false);

        private static final int FIRST_ROW = 6;
        // The least gain that stays, a cone's 4, reaches the 2000 stitches that may be asked in row 500.
        private static final int MOST_ROWS = 1000;

        private final String word;
        private final int firstGain;
        private final boolean gainsLess;

        Spiral(String word, int firstGain, boolean gainsLess) {
            this.word = word;
            this.firstGain = firstGain;
            this.gainsLess = gainsLess;
        }

        private int gainOf(int row) {
            return gainsLess ? Math.max(0, firstGain - row / 3) : firstGain;
        }

        private int stitchesRowByRow(int rows) {
            int inRow = FIRST_ROW;
            int together = FIRST_ROW;
            for (int row = 2; row <= rows; row++) {
                inRow += gainOf(row);
                together += inRow;
            }
            return together;
        }

        private int stitchesAtOnce(int rows) {
            if (!gainsLess) {
                return FIRST_ROW * rows + firstGain * addedByOneEach(rows, rows);
            }
            // A gain of 6 less row / 3 is one stitch for each k of 1 to 6 whose 3 k is above the row.
            int together = FIRST_ROW * rows;
            for (int k = 1; k <= firstGain; k++) {
                together += addedByOneEach(rows, Math.min(rows, 3 * k - 1));
            }
            return together;
        }

        // A stitch gained in a row stands in that row and in each later one: what one stitch more
        // in each of the rows 2 to last adds to the count of all rows.
        private static int addedByOneEach(int rows, int last) {
            return (last - 1) * (2 * rows - last) / 2;
        }

        private int rowsToClose(int stitches) {
            int inRow = FIRST_ROW;
            for (int row = 1; row <= MOST_ROWS; row++) {
                if (inRow >= stitches) {
                    return row;
                }
                inRow += gainOf(row + 1);
            }
            return NONE;
        }
    }

    private static final class Lot {
        private final Fur fur;
        private int gramsLeft;

        private Lot(Fur fur, int grams) {
            this.fur = fur;
            this.gramsLeft = grams;
        }
    }

    private static final class Hand {
        private int airToday = 0;
        private int airEver = 0;

        private void breathe(int air) {
            airToday += air;
            airEver += air;
        }
    }

    private static final class Block {
        private static final int NARROWEST = 50;

        private final int size;
        private final int depth;

        private Block(int size, int depth) {
            this.size = size;
            this.depth = depth;
        }

        // The document's "at least 50" is said of the width; even 300, 1 only goes down to 150.
        private int widthFor(int band) {
            int bandsAboveDepth = Math.max(0, band - depth + 1);
            return Math.max(NARROWEST, size - size / 10 * bandsAboveDepth);
        }
    }

    private static final class Head {
        private final int[] radii = new int[RADII];

        private void setRadius(int radius, int length) {
            if (radius >= 0 && radius < radii.length) {
                radii[radius] = length;
            }
        }

        private int around() {
            int sum = 0;
            for (int length : radii) {
                sum += length;
            }
            return sum * 785 / 1000;
        }

        private float sizeIn(int land) {
            float millimetres = (float) around();
            switch (land) {
                case 0:
                    return millimetres / 10.0f;
                case 1:
                    return millimetres / 79.796f;
                case 2:
                    return millimetres / 79.796f + 0.125f;
                default:
                    return millimetres / 6.77f;
            }
        }
    }

    private static final class Cone {
        private static final int THINNEST = 40;
        private static final int HEIGHT_FORMED = 60;

        private final Fur fur;
        private final int[] widths = new int[BANDS];
        private final int[] gramsOfBands = new int[BANDS];
        // All bands shrink alike along, so one height stands for all of them.
        private int height = HEIGHT_FORMED;
        private int cycleCount = 0;
        private Block lastBlock = null;
        private boolean isTrimmed = false;

        private Cone(Fur fur, int grams, int taper) {
            this.fur = fur;
            int parts = 0;
            for (int band = 0; band < BANDS; band++) {
                parts += partOf(band, taper);
            }
            int left = grams;
            for (int band = 0; band < BANDS; band++) {
                widths[band] = widthFormed(band);
                gramsOfBands[band] = parts <= 0 ? 0 : grams * partOf(band, taper) / parts;
                left -= gramsOfBands[band];
            }
            gramsOfBands[0] += left;
        }

        private static int partOf(int band, int taper) {
            return 10 + taper * band;
        }

        private static int widthFormed(int band) {
            return 1200 - 150 * band;
        }

        private int widthOf(int band) {
            return band < 0 || band >= widths.length ? 0 : widths[band];
        }

        private int gramsOf(int band) {
            return band < 0 || band >= gramsOfBands.length ? 0 : gramsOfBands[band];
        }

        private int thicknessOf(int band) {
            int area = widthOf(band) * height;
            return area <= 0 ? 0 : gramsOf(band) * 100000 / area;
        }

        private void shrink() {
            for (int band = 0; band < widths.length; band++) {
                widths[band] = fur.shrunkAcross(widths[band]);
            }
            height = fur.shrunkAlong(height);
            cycleCount++;
        }

        private int refusalOf(Block block) {
            if (hasHole()) {
                return HAS_A_HOLE;
            }
            boolean isTooWide = false;
            for (int band = 0; band < BANDS; band++) {
                int width = widthOf(band);
                int wanted = block.widthFor(band);
                if (wanted > width && isTornBy(wanted - width, width)) {
                    return IS_TORN;
                }
                isTooWide = isTooWide || wanted < width && fur.shrunkAcross(width) > wanted;
            }
            return isTooWide ? IS_TOO_WIDE : DRAWN;
        }

        private boolean hasHole() {
            for (int band = 0; band < BANDS; band++) {
                if (thicknessOf(band) < THINNEST) {
                    return true;
                }
            }
            return false;
        }

        private boolean isTornBy(int more, int width) {
            return width <= 0 || 100 * more / width > fur.strain;
        }

        private void stretchOver(Block block) {
            for (int band = 0; band < widths.length; band++) {
                widths[band] = block.widthFor(band);
            }
            lastBlock = block;
        }

        // No cycle follows a draw, and a draw leaves nothing of the widths before it,
        // so the forming, the cycles and the last block tell it all.
        private int widthFollowed(int band) {
            if (lastBlock != null) {
                return lastBlock.widthFor(band);
            }
            int width = widthFormed(band);
            for (int made = 0; made < cycleCount && made < MOST_CYCLES; made++) {
                width = fur.shrunkAcross(width);
            }
            return width;
        }
    }
}
