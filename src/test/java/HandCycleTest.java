/** Promises 5, 6 and 20: hand, cycle, air. */
final class HandCycleTest {
    public static void main(String[] args) {
        sixHands();
        cyclesShrinkEachFur();
        heightsShrink();
        airHasALimitADay();
        airIsOfTodayOrOfAllDays();
        twelveCycles();
        noCycleOnceDrawn();
        numbersThatAreNot();
        Check.end("HandCycleTest");
    }

    private static void sixHands() {
        HatbandYard yard = new HatbandYard();
        for (int hand = 0; hand < 6; hand++) {
            Check.due("hand " + hand, yard.hand(), hand);
            Check.due("air of a new hand", yard.air(hand, true), 0);
            Check.due("air of all days of a new hand", yard.air(hand, false), 0);
        }
        Check.throwing(yard, "hand 6", Check.STATE, () -> yard.hand());
        Check.throwing(yard, "air of hand 6", Check.INDEX, () -> yard.air(6, true));
    }

    private static HatbandYard yardOf(String fur, int hands) {
        HatbandYard yard = new HatbandYard();
        Check.lotOf(yard, fur, 5000);
        yard.cone(0, 500, 0);
        for (int hand = 0; hand < hands; hand++) {
            yard.hand();
        }
        return yard;
    }

    private static void edges(String fur, int... want) {
        HatbandYard yard = yardOf(fur, 1);
        for (int edge : want) {
            Check.due("edge of " + fur, yard.cycle(0, 0), edge);
            Check.due("edge asked of " + fur, yard.about(0, 0, 0), edge);
            Check.due("edge anew of " + fur, yard.widthAnew(0, 0), edge);
            yard.pass(1);
        }
    }

    private static void cyclesShrinkEachFur() {
        edges("rabbit", 1104, 1015, 933, 858, 789, 725, 667, 613, 563, 517, 475, 437);
        edges("wool", 1080, 972, 874, 786, 707, 636, 572, 514, 462, 415, 373, 335);
        edges("beaver", 1140, 1083, 1028, 976, 927, 880, 836, 794, 754, 716, 680, 646);
        edges("hare", 1116, 1037, 964, 896, 833, 774, 719, 668, 621, 577, 536, 498);
        HatbandYard yard = yardOf("hare", 1);
        Check.cycles(yard, 0, 0, 3);
        Check.widths(yard, 0, 964, 843, 723, 602, 481, 360);
    }

    private static void heights(String fur, int... want) {
        HatbandYard yard = yardOf(fur, 1);
        for (int height : want) {
            Check.cycles(yard, 0, 0, 1);
            for (int band = 0; band < 6; band++) {
                Check.due("height of " + fur, yard.about(0, band, 1), height);
                int area = yard.about(0, band, 0) * height;
                Check.due("thickness of " + fur, yard.about(0, band, 3), yard.about(0, band, 2) * 100000 / area);
            }
        }
        Check.due("grams stay", yard.about(0, 0, 2), 85);
    }

    private static void heightsShrink() {
        heights("rabbit", 56, 52, 48, 45, 42, 39, 36, 33, 31, 29, 27, 25);
        heights("wool", 54, 49, 44, 40, 36, 32, 29, 26, 23, 20, 18, 16);
        heights("beaver", 57, 54, 51, 48, 45, 42, 39, 37, 35, 33, 31, 29);
        heights("hare", 56, 52, 48, 45, 42, 39, 36, 33, 31, 29, 27, 25);
    }

    private static void airHasALimitADay() {
        String[] furs = {"rabbit", "wool", "beaver", "hare"};
        int[] most = {3, 12, 6, 2};
        int[] air = {24, 24, 30, 24};
        for (int i = 0; i < furs.length; i++) {
            HatbandYard yard = yardOf(furs[i], 2);
            for (int made = 0; made < most[i]; made++) {
                yard.cycle(0, 0);
            }
            Check.due("air of " + furs[i], yard.air(0, true), air[i]);
            Check.throwing(yard, "cycle too many of " + furs[i], Check.STATE, () -> yard.cycle(0, 0));
            Check.due("air of the other hand", yard.air(1, true), 0);
        }
        HatbandYard wool = yardOf("wool", 1);
        wool.cone(0, 100, 0);
        for (int made = 0; made < 15; made++) {
            wool.cycle(made % 2, 0);
        }
        Check.due("15 cycles of wool", wool.air(0, true), 30);
        Check.throwing(wool, "the sixteenth", Check.STATE, () -> wool.cycle(1, 0));
        airOfSeveralFurs();
    }

    private static void airOfSeveralFurs() {
        HatbandYard yard = yardOf("wool", 1);
        yard.cone(0, 100, 0);
        Check.lotOf(yard, "beaver", 100);
        yard.cone(1, 100, 0);
        for (int made = 0; made < 13; made++) {
            yard.cycle(made % 2, 0);
        }
        Check.throwing(yard, "26 and 5 are 31", Check.STATE, () -> yard.cycle(2, 0));
        yard.cycle(0, 0);
        yard.cycle(0, 0);
        Check.due("26, 2 and 2 are 30", yard.air(0, true), 30);
    }

    private static void airIsOfTodayOrOfAllDays() {
        HatbandYard yard = yardOf("beaver", 2);
        yard.cycle(0, 0);
        yard.cycle(0, 0);
        yard.cycle(0, 1);
        Check.due("today of 0", yard.air(0, true), 10);
        Check.due("today of 1", yard.air(1, true), 5);
        yard.pass(1);
        Check.due("today of 0, next day", yard.air(0, true), 0);
        Check.due("today of 1, next day", yard.air(1, true), 0);
        yard.cycle(0, 0);
        Check.due("today of 0, after a cycle", yard.air(0, true), 5);
        Check.due("all days of 0", yard.air(0, false), 15);
        Check.due("all days of 1", yard.air(1, false), 5);
        yard.pass(30);
        Check.due("all days of 0, later", yard.air(0, false), 15);
    }

    private static void twelveCycles() {
        HatbandYard yard = yardOf("wool", 2);
        for (int made = 0; made < 12; made++) {
            yard.cycle(0, 0);
        }
        Check.throwing(yard, "thirteenth cycle", Check.STATE, () -> yard.cycle(0, 1));
        yard.pass(1);
        Check.throwing(yard, "thirteenth cycle, next day", Check.STATE, () -> yard.cycle(0, 0));
        Check.widths(yard, 0, 335, 294, 252, 209, 167, 123);
    }

    private static void noCycleOnceDrawn() {
        HatbandYard yard = yardOf("beaver", 1);
        Check.cycles(yard, 0, 0, 10);
        yard.block(700, 1);
        Check.due("draw", yard.draw(0, 0), 0);
        Check.throwing(yard, "cycle of a drawn cone", Check.STATE, () -> yard.cycle(0, 0));
        yard.cone(0, 100, 0);
        Check.due("another cone", yard.cycle(1, 0), 1140);
    }

    private static void numbersThatAreNot() {
        HatbandYard yard = yardOf("hare", 1);
        yard.cycle(0, 0);
        yard.cycle(0, 0);
        for (int number : new int[] {Integer.MIN_VALUE, -1, 1, 5, 6, 11, 12, Integer.MAX_VALUE}) {
            Check.throwing(yard, "cycle of cone " + number, Check.INDEX, () -> yard.cycle(number, 0));
            Check.throwing(yard, "cycle by hand " + number, Check.INDEX, () -> yard.cycle(0, number));
            Check.throwing(yard, "air of " + number, Check.INDEX, () -> yard.air(number, true));
            Check.throwing(yard, "all air of " + number, Check.INDEX, () -> yard.air(number, false));
        }
    }
}
