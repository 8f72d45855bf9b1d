/** Promises 14, 15 and 16: count, countAnew, rows. */
final class SpiralTest {
    private static final String[] KINDS = {"flat", "cone", "dome", "brim"};

    public static void main(String[] args) {
        someCounts();
        countsOfAllRows();
        closesWithAtLeastAsMany();
        domeGainsAtLeast0();
        mayNeedMoreThan100Rows();
        otherWordsAreNoKind();
        nothingIsTypedThen();
        rangeOfRows();
        rangeOfStitches();
        Check.end("SpiralTest");
    }

    private static int gain(String kind, int row) {
        switch (kind) {
            case "flat":
                return 6;
            case "cone":
                return 4;
            case "dome":
                return row >= 18 ? 0 : 6 - row / 3;
            default:
                return 9;
        }
    }

    private static void counted(String kind, int rows, int want) {
        Yard yard = new Yard();
        Check.due("count of " + rows + " of " + kind, yard.type(kind).count(rows), want);
        yard.hasNothingTyped();
        Check.due("countAnew of " + rows + " of " + kind, yard.type(kind).countAnew(rows), want);
        yard.hasNothingTyped();
    }

    /** "the row 1 has 6 stitches; each other one has those of the row ahead of it and a gain". */
    private static void someCounts() {
        for (String kind : KINDS) {
            counted(kind, 1, 6);
        }
        counted("flat", 2, 18);
        counted("flat", 5, 90);
        counted("flat", 99, 29700);
        counted("flat", 100, 30300);
        counted("cone", 2, 16);
        counted("cone", 99, 19998);
        counted("cone", 100, 20400);
        counted("dome", 2, 18);
        counted("dome", 3, 35);
        counted("dome", 20, 819);
        counted("dome", 100, 819 + 80 * 57);
        counted("brim", 2, 21);
        counted("brim", 3, 45);
        counted("brim", 100, 45150);
    }

    /** "Its count is that of all rows together", for each kind and number of rows. */
    private static void countsOfAllRows() {
        for (String kind : KINDS) {
            int together = 0;
            int inRow = 0;
            for (int row = 1; row <= 100; row++) {
                inRow += row == 1 ? 6 : gain(kind, row);
                together += inRow;
                counted(kind, row, together);
            }
        }
    }

    private static void closes(String kind, int stitches, int want) {
        Yard yard = new Yard();
        Check.due("rows for " + stitches + " of " + kind, yard.type(kind).rows(stitches), want);
        yard.hasNothingTyped();
    }

    /** "It closes, if its last row has at least as many stitches as are asked". */
    private static void closesWithAtLeastAsMany() {
        for (String kind : KINDS) {
            closes(kind, 1, 1);
            closes(kind, 6, 1);
            closes(kind, 7, 2);
        }
        closes("flat", 12, 2);
        closes("flat", 13, 3);
        closes("cone", 10, 2);
        closes("cone", 11, 3);
        closes("cone", 30, 7);
        closes("cone", 31, 8);
        closes("brim", 15, 2);
        closes("brim", 16, 3);
        for (int stitches = 1; stitches <= 2000; stitches++) {
            closes("flat", stitches, (stitches + 5) / 6);
            closes("cone", stitches, stitches <= 6 ? 1 : (stitches + 1) / 4);
            closes("brim", stitches, stitches <= 6 ? 1 : (stitches + 11) / 9);
        }
    }

    /** "dome 6 less a third of the row's number, rounded down, at least 0": it has 57 stitches from row 17 on. */
    private static void domeGainsAtLeast0() {
        int[] inRow = {6, 12, 17, 22, 27, 31, 35, 39, 42, 45, 48, 50, 52, 54, 55, 56, 57};
        int together = 0;
        for (int row = 1; row <= 100; row++) {
            together += row <= 17 ? inRow[row - 1] : 57;
            counted("dome", row, together);
            if (row <= 17) {
                closes("dome", inRow[row - 1], row);
            }
            if (row <= 16) {
                closes("dome", inRow[row - 1] + 1, row + 1);
            }
        }
        for (int stitches = 58; stitches <= 2000; stitches++) {
            closes("dome", stitches, HatbandYard.NONE);
        }
    }

    /** "it may need more than 100 rows for that". */
    private static void mayNeedMoreThan100Rows() {
        closes("flat", 600, 100);
        closes("flat", 601, 101);
        closes("flat", 2000, 334);
        closes("cone", 402, 100);
        closes("cone", 403, 101);
        closes("cone", 1998, 499);
        closes("cone", 1999, 500);
        closes("cone", 2000, 500);
        closes("brim", 897, 100);
        closes("brim", 898, 101);
        closes("brim", 2000, 223);
    }

    /** "NONE if the word is none of these". */
    private static void otherWordsAreNoKind() {
        for (String word : new String[] {"", "f", "fla", "flats", "cones", "domes", "brims", "con", "dom", "bri", "wool",
            "hare", "flax", "rome", "egret"}) {
            counted(word, 1, HatbandYard.NONE);
            counted(word, 100, HatbandYard.NONE);
            closes(word, 1, HatbandYard.NONE);
            closes(word, 2000, HatbandYard.NONE);
        }
    }

    private static void nothingIsTypedThen() {
        for (String kind : KINDS) {
            Yard yard = new Yard();
            yard.type(kind).count(9);
            Check.due("count of nothing then", yard.count(9), HatbandYard.NONE);
            yard.type(kind).countAnew(9);
            Check.due("countAnew of nothing then", yard.countAnew(9), HatbandYard.NONE);
            yard.type(kind).rows(9);
            Check.due("rows of nothing then", yard.rows(9), HatbandYard.NONE);
        }
    }

    /** "rows: 1 to 100", of count and of countAnew. */
    private static void rangeOfRows() {
        for (String word : new String[] {"", "hat", "flat", "cone", "dome", "brim"}) {
            Yard yard = new Yard().type(word);
            for (int rows : new int[] {Integer.MIN_VALUE, -1, 0, 101, Integer.MAX_VALUE}) {
                yard.refuses("count of " + rows, Check.ARGUMENT, y -> y.count(rows));
                yard.refuses("countAnew of " + rows, Check.ARGUMENT, y -> y.countAnew(rows));
            }
            Check.due(word + " stays typed", yard.letter('z'), word.length() + 1);
        }
        Yard yard = new Yard().type("dome");
        yard.refuses("count of 101", Check.ARGUMENT, y -> y.count(101));
        Check.due("dome stays typed, for countAnew", yard.countAnew(2), 18);
        yard.type("dome");
        yard.refuses("countAnew of 0", Check.ARGUMENT, y -> y.countAnew(0));
        Check.due("dome stays typed, for count", yard.count(2), 18);
    }

    /** "stitches: 1 to 2000". */
    private static void rangeOfStitches() {
        for (String word : new String[] {"", "hat", "flat", "cone", "dome", "brim"}) {
            Yard yard = new Yard().type(word);
            for (int stitches : new int[] {Integer.MIN_VALUE, -1, 0, 2001, Integer.MAX_VALUE}) {
                yard.refuses("rows for " + stitches, Check.ARGUMENT, y -> y.rows(stitches));
            }
        }
        Yard yard = new Yard().type("dome");
        yard.refuses("rows for 2001", Check.ARGUMENT, y -> y.rows(2001));
        Check.due("dome stays typed", yard.rows(57), 17);
    }
}
