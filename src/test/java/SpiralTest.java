/** Promises 14, 15 and 16: count, countAnew, rows. */
final class SpiralTest {
    private static final String[] KINDS = {"flat", "cone", "dome", "brim"};

    public static void main(String[] args) {
        someCounts();
        countsAgree();
        rowsToClose();
        otherWordsAreNoKind();
        rangesAreKept();
        Check.end("SpiralTest");
    }

    private static int gain(String kind, int row) {
        switch (kind) {
            case "flat":
                return 6;
            case "cone":
                return 4;
            case "dome":
                return row >= 18 ? 0 : 6 - row / 3;
            default:
                return 9;
        }
    }

    private static void counted(String kind, int rows, int want) {
        HatbandYard yard = new HatbandYard();
        Check.due("count of " + rows + " of " + kind, Check.type(yard, kind).count(rows), want);
        Check.nothingTyped(yard);
        Check.due("countAnew of " + rows + " of " + kind, Check.type(yard, kind).countAnew(rows), want);
        Check.nothingTyped(yard);
    }

    private static void someCounts() {
        counted("flat", 5, 90);
        counted("flat", 100, 30300);
        counted("cone", 1, 6);
        counted("cone", 2, 16);
        counted("cone", 100, 20400);
        counted("dome", 1, 6);
        counted("dome", 2, 18);
        counted("dome", 3, 35);
        counted("dome", 20, 819);
        counted("dome", 100, 819 + 80 * 57);
        counted("brim", 3, 45);
        counted("brim", 100, 45150);
    }

    private static void countsAgree() {
        for (String kind : KINDS) {
            int together = 0;
            int inRow = 0;
            for (int row = 1; row <= 100; row++) {
                inRow += row == 1 ? 6 : gain(kind, row);
                together += inRow;
                counted(kind, row, together);
            }
        }
    }

    private static void closes(String kind, int stitches, int want) {
        HatbandYard yard = new HatbandYard();
        Check.due("rows for " + stitches + " of " + kind, Check.type(yard, kind).rows(stitches), want);
        Check.nothingTyped(yard);
    }

    private static void rowsToClose() {
        for (int stitches = 1; stitches <= 2000; stitches++) {
            closes("flat", stitches, (stitches + 5) / 6);
            closes("cone", stitches, stitches <= 6 ? 1 : (stitches + 1) / 4);
            closes("brim", stitches, stitches <= 6 ? 1 : (stitches + 11) / 9);
        }
        closes("flat", 2000, 334);
        closes("cone", 2000, 500);
        closes("cone", 30, 7);
        closes("brim", 2000, 223);
        int inRow = 6;
        int row = 1;
        for (int stitches = 1; stitches <= 57; stitches++) {
            while (inRow < stitches) {
                row++;
                inRow += gain("dome", row);
            }
            closes("dome", stitches, row);
        }
        closes("dome", 57, 17);
        closes("dome", 58, HatbandYard.NONE);
        closes("dome", 2000, HatbandYard.NONE);
    }

    private static void otherWordsAreNoKind() {
        for (String word : new String[] {"", "f", "fla", "flats", "cones", "domes", "brims", "wool", "hare", "flax", "rome"}) {
            counted(word, 3, HatbandYard.NONE);
            closes(word, 3, HatbandYard.NONE);
        }
    }

    private static void rangesAreKept() {
        HatbandYard yard = Check.type(new HatbandYard(), "dome");
        for (int rows : new int[] {Integer.MIN_VALUE, -1, 0, 101, Integer.MAX_VALUE}) {
            Check.throwing(yard, "count of " + rows, Check.ARGUMENT, () -> yard.count(rows));
            Check.throwing(yard, "countAnew of " + rows, Check.ARGUMENT, () -> yard.countAnew(rows));
        }
        for (int stitches : new int[] {Integer.MIN_VALUE, -1, 0, 2001, Integer.MAX_VALUE}) {
            Check.throwing(yard, "rows for " + stitches, Check.ARGUMENT, () -> yard.rows(stitches));
        }
        Check.due("dome stays typed", yard.rows(57), 17);
        Check.throwing(yard, "count of 0 of no word", Check.ARGUMENT, () -> yard.count(0));
        Check.throwing(yard, "countAnew of 0 of no word", Check.ARGUMENT, () -> yard.countAnew(0));
        Check.throwing(yard, "rows for 0 of no word", Check.ARGUMENT, () -> yard.rows(0));
    }
}
