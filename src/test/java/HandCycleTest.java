/** Promises 5, 6 and 20: hand, cycle, air. */
final class HandCycleTest {
    public static void main(String[] args) {
        sixHandsAndNoMore();
        widthsShrinkByEachFur();
        heightsShrinkByEachFur();
        eachBandShrinksAndNoOtherCone();
        airOfADayIsNotAbove30();
        airOf30IsReachedExactly();
        airIsFreeOnTheNextDay();
        airIsOfTodayOrOfAllDays();
        airIsOfEachHand();
        twelveCyclesAndNoMore();
        noCycleOnceDrawn();
        cyclesAgainBehindARefusedDraw();
        cycleOfNoConeOrHand();
        indexAheadOfState();
        airOfNoHand();
        Check.end("HandCycleTest");
    }

    /** "Hands are numbered from 0, at most 6", "IllegalStateException if there are 6". */
    private static void sixHandsAndNoMore() {
        Yard yard = Yard.withCone("wool", 500, 0, 1);
        for (int hand = 1; hand < 6; hand++) {
            Check.due("hand " + hand, yard.hand(), hand);
            Check.due("air of a new hand", yard.air(hand, true), 0);
            Check.due("air of all days of a new hand", yard.air(hand, false), 0);
        }
        yard.refuses("seventh hand", Check.STATE, y -> y.hand());
        yard.refuses("air of hand 6", Check.INDEX, y -> y.air(6, true));
        Check.due("the sixth hand makes a cycle", yard.cycle(0, 5), 972);
        Check.due("air of the sixth hand", yard.air(5, true), 2);
        Check.due("air of the first hand", yard.air(0, false), 2);
    }

    private static void edges(String fur, int... want) {
        Yard yard = Yard.withCone(fur, 500, 0, 0);
        for (int edge : want) {
            Check.due("edge of " + fur, yard.cycle(0, 0), edge);
            Check.due("edge asked of " + fur, yard.about(0, 0, 0), edge);
            Check.due("edge anew of " + fur, yard.widthAnew(0, 0), edge);
            yard.pass(1);
        }
    }

    /** "A cycle makes each width less by that of 100 across", rounded down. */
    private static void widthsShrinkByEachFur() {
        edges("rabbit", 1104, 1015, 933, 858, 789, 725, 667, 613, 563, 517, 475, 437);
        edges("wool", 1080, 972, 874, 786, 707, 636, 572, 514, 462, 415, 373, 335);
        edges("beaver", 1140, 1083, 1028, 976, 927, 880, 836, 794, 754, 716, 680, 646);
        edges("hare", 1116, 1037, 964, 896, 833, 774, 719, 668, 621, 577, 536, 498);
        Yard.withCone("hare", 500, 0, 3).hasWidths(0, 964, 843, 723, 602, 481, 360);
        Yard.withCone("rabbit", 500, 0, 2).hasWidths(0, 1015, 888, 761, 634, 507, 380);
    }

    private static void heights(String fur, int... want) {
        Yard yard = Yard.withCone(fur, 500, 0, 0);
        for (int height : want) {
            yard.cycles(0, 0, 1);
            for (int band = 0; band < 6; band++) {
                Check.due("height of " + fur, yard.about(0, band, 1), height);
                int area = yard.about(0, band, 0) * height;
                Check.due("thickness of " + fur, yard.about(0, band, 3), yard.about(0, band, 2) * 100000 / area);
            }
        }
        Check.due("grams of band 0 stay", yard.about(0, 0, 2), 85);
        Check.due("grams of band 5 stay", yard.about(0, 5, 2), 83);
    }

    /** "each height less by that of 100 along, both rounded down". */
    private static void heightsShrinkByEachFur() {
        heights("rabbit", 56, 52, 48, 45, 42, 39, 36, 33, 31, 29, 27, 25);
        heights("wool", 54, 49, 44, 40, 36, 32, 29, 26, 23, 20, 18, 16);
        heights("beaver", 57, 54, 51, 48, 45, 42, 39, 37, 35, 33, 31, 29);
        heights("hare", 56, 52, 48, 45, 42, 39, 36, 33, 31, 29, 27, 25);
    }

    private static void eachBandShrinksAndNoOtherCone() {
        Yard yard = Yard.withCone("wool", 500, 0, 0);
        yard.lotOf("hare", 100);
        yard.cone(1, 100, 0);
        Check.due("cycle of cone 1", yard.cycle(1, 0), 1116);
        yard.hasWidths(0, 1200, 1050, 900, 750, 600, 450);
        yard.hasWidths(1, 1116, 976, 837, 697, 558, 418);
        Check.due("height of cone 0", yard.about(0, 0, 1), 60);
        Check.due("air of hare", yard.air(0, true), 12);
        Check.due("cycle of cone 0", yard.cycle(0, 0), 1080);
        yard.hasWidths(0, 1080, 945, 810, 675, 540, 405);
        yard.hasWidths(1, 1116, 976, 837, 697, 558, 418);
    }

    /** Cones 0 to 3 of rabbit, wool, beaver, hare and a second of wool, and two hands. */
    private static Yard withEachFur() {
        Yard yard = new Yard();
        for (String fur : new String[] {"rabbit", "wool", "beaver", "hare", "wool"}) {
            int lot = yard.lotOf(fur, 100);
            yard.cone(lot, 100, 0);
        }
        yard.hand();
        yard.hand();
        return yard;
    }

    /** A day on which a hand had cycles of wool, beaver and rabbit, all below 12 of each cone. */
    private static Yard withAir(int ofWool, int ofBeaver, int ofRabbit) {
        Yard yard = withEachFur();
        for (int made = 0; made < ofWool; made++) {
            yard.cycle(made % 2 == 0 ? 1 : 4, 0);
        }
        for (int made = 0; made < ofBeaver; made++) {
            yard.cycle(2, 0);
        }
        for (int made = 0; made < ofRabbit; made++) {
            yard.cycle(0, 0);
        }
        Check.due("air so far", yard.air(0, true), 2 * ofWool + 5 * ofBeaver + 8 * ofRabbit);
        return yard;
    }

    /** "on one day it must not be above 30": 31 is too much, by each fur. */
    private static void airOfADayIsNotAbove30() {
        Yard of23 = withAir(9, 1, 0);
        of23.refuses("23 and 8 of rabbit", Check.STATE, y -> y.cycle(0, 0));
        Yard of29 = withAir(12, 1, 0);
        of29.refuses("29 and 2 of wool", Check.STATE, y -> y.cycle(1, 0));
        Yard of26 = withAir(13, 0, 0);
        of26.refuses("26 and 5 of beaver", Check.STATE, y -> y.cycle(2, 0));
        Yard of19 = withAir(7, 1, 0);
        of19.refuses("19 and 12 of hare", Check.STATE, y -> y.cycle(3, 0));
        Check.due("the same by the other hand", of19.cycle(3, 1), 1116);
        Check.due("less air by the same hand", of19.cycle(2, 0), 1083);
        Yard of30 = withAir(15, 0, 0);
        for (int cone = 0; cone < 5; cone++) {
            int number = cone;
            of30.refuses("more than 30", Check.STATE, y -> y.cycle(number, 0));
        }
    }

    private static void airOf30IsReachedExactly() {
        Check.due("22 and 8 of rabbit", withAir(11, 0, 0).cycle(0, 0), 1104);
        Check.due("28 and 2 of wool", withAir(14, 0, 0).cycle(1, 0), 514);
        Check.due("25 and 5 of beaver", withAir(0, 5, 0).cycle(2, 0), 880);
        Check.due("18 and 12 of hare", withAir(9, 0, 0).cycle(3, 0), 1116);
        Yard yard = withAir(3, 0, 3);
        Check.due("air of 3 times 2 and 3 times 8", yard.air(0, true), 30);
        yard.refuses("30 and 2", Check.STATE, y -> y.cycle(1, 0));
    }

    /** "on one day": the next is another. */
    private static void airIsFreeOnTheNextDay() {
        for (int days : new int[] {1, 2, 30}) {
            Yard yard = withAir(15, 0, 0);
            yard.refuses("cycle on the same day", Check.STATE, y -> y.cycle(3, 0));
            yard.pass(days);
            Check.due("cycle after " + days, yard.cycle(3, 0), 1116);
            Check.due("second cycle after " + days, yard.cycle(3, 0), 1037);
            yard.refuses("third cycle after " + days, Check.STATE, y -> y.cycle(3, 0));
            Check.due("air of all days", yard.air(0, false), 54);
        }
    }

    /** "isToday: whether of today, otherwise of all days". */
    private static void airIsOfTodayOrOfAllDays() {
        Yard yard = Yard.withCone("beaver", 500, 0, 0);
        yard.hand();
        yard.cycle(0, 0);
        yard.cycle(0, 0);
        yard.cycle(0, 1);
        Check.due("today of 0", yard.air(0, true), 10);
        Check.due("all days of 0", yard.air(0, false), 10);
        Check.due("today of 1", yard.air(1, true), 5);
        yard.pass(1);
        Check.due("today of 0, next day", yard.air(0, true), 0);
        Check.due("today of 1, next day", yard.air(1, true), 0);
        Check.due("all days of 0, next day", yard.air(0, false), 10);
        yard.cycle(0, 0);
        Check.due("today of 0, after a cycle", yard.air(0, true), 5);
        Check.due("all days of 0", yard.air(0, false), 15);
        Check.due("all days of 1", yard.air(1, false), 5);
        yard.pass(30);
        Check.due("all days of 0, in another year", yard.air(0, false), 15);
        Check.due("today of 0, in another year", yard.air(0, true), 0);
    }

    /** "the air of each cycle that a hand makes counts for that hand". */
    private static void airIsOfEachHand() {
        Yard yard = withEachFur();
        for (int hand = 2; hand < 6; hand++) {
            yard.hand();
        }
        for (int hand = 0; hand < 6; hand++) {
            for (int made = 0; made < hand; made++) {
                yard.cycle(made % 2 == 0 ? 1 : 4, hand);
            }
        }
        for (int hand = 0; hand < 6; hand++) {
            Check.due("air of hand " + hand, yard.air(hand, true), 2 * hand);
            Check.due("air of all days of hand " + hand, yard.air(hand, false), 2 * hand);
        }
    }

    /** "or it has had 12 cycles", by whatever hands and on whatever days. */
    private static void twelveCyclesAndNoMore() {
        Yard yard = Yard.withCone("wool", 500, 0, 0);
        yard.cone(0, 100, 0);
        yard.hand();
        for (int made = 0; made < 11; made++) {
            yard.cycle(0, 0);
        }
        Check.due("twelfth cycle", yard.cycle(0, 0), 335);
        yard.refuses("thirteenth cycle", Check.STATE, y -> y.cycle(0, 0));
        yard.refuses("thirteenth cycle, by another hand", Check.STATE, y -> y.cycle(0, 1));
        Check.due("a cycle of another cone", yard.cycle(1, 0), 1080);
        yard.pass(1);
        yard.refuses("thirteenth cycle, next day", Check.STATE, y -> y.cycle(0, 0));
        yard.hasWidths(0, 335, 294, 252, 209, 167, 123);
        for (String fur : new String[] {"rabbit", "beaver", "hare"}) {
            Yard.withCone(fur, 100, 0, 12).refuses("thirteenth cycle of " + fur, Check.STATE, y -> y.cycle(0, 0));
        }
    }

    /** "the cone was drawn over a block". */
    private static void noCycleOnceDrawn() {
        Yard yard = Yard.withCone("beaver", 500, 0, 10);
        yard.block(700, 1);
        Check.due("draw", yard.draw(0, 0), 0);
        yard.refuses("cycle of a drawn cone", Check.STATE, y -> y.cycle(0, 0));
        yard.pass(1);
        yard.refuses("cycle of a drawn cone, next day", Check.STATE, y -> y.cycle(0, 0));
        yard.cone(0, 100, 0);
        Check.due("another cone", yard.cycle(1, 0), 1140);
    }

    private static void cyclesAgainBehindARefusedDraw() {
        Yard hole = Yard.withCone("beaver", 10, 0, 2);
        hole.block(700, 1);
        Check.due("a hole", hole.draw(0, 0), 1);
        Check.due("cycle behind a hole", hole.cycle(0, 0), 1028);
        Yard torn = Yard.withCone("rabbit", 500, 0, 0);
        torn.block(545, 6);
        Check.due("torn", torn.draw(0, 0), 2);
        Check.due("cycle behind a tear", torn.cycle(0, 0), 1104);
        Yard wide = Yard.withCone("hare", 500, 0, 0);
        wide.block(300, 1);
        Check.due("too wide", wide.draw(0, 0), 3);
        Check.due("cycle behind too wide a band", wide.cycle(0, 0), 1116);
    }

    private static void cycleOfNoConeOrHand() {
        Yard yard = Yard.withCone("hare", 500, 0, 1);
        for (int number : new int[] {Integer.MIN_VALUE, -1, 1, 5, 6, 11, 12, Integer.MAX_VALUE}) {
            yard.refuses("cycle of cone " + number, Check.INDEX, y -> y.cycle(number, 0));
            yard.refuses("cycle by hand " + number, Check.INDEX, y -> y.cycle(0, number));
            yard.refuses("cycle of neither", Check.INDEX, y -> y.cycle(number, number));
        }
    }

    private static void indexAheadOfState() {
        Yard breathed = withAir(15, 0, 0);
        breathed.refuses("no cone, too much air", Check.INDEX, y -> y.cycle(5, 0));
        breathed.refuses("no cone at -1, too much air", Check.INDEX, y -> y.cycle(-1, 0));
        Yard drawn = Yard.withCone("beaver", 500, 0, 10);
        drawn.block(700, 1);
        drawn.draw(0, 0);
        drawn.refuses("no hand, a drawn cone", Check.INDEX, y -> y.cycle(0, 1));
        drawn.refuses("no hand at -1, a drawn cone", Check.INDEX, y -> y.cycle(0, -1));
        Yard felted = Yard.withCone("wool", 500, 0, 12);
        felted.refuses("no hand, 12 cycles", Check.INDEX, y -> y.cycle(0, 1));
        felted.refuses("no hand at 6, 12 cycles", Check.INDEX, y -> y.cycle(0, 6));
    }

    private static void airOfNoHand() {
        Yard yard = Yard.withCone("hare", 500, 0, 1);
        yard.hand();
        for (int number : new int[] {Integer.MIN_VALUE, -1, 2, 5, 6, 7, Integer.MAX_VALUE}) {
            yard.refuses("air of " + number, Check.INDEX, y -> y.air(number, true));
            yard.refuses("air of all days of " + number, Check.INDEX, y -> y.air(number, false));
        }
    }
}
