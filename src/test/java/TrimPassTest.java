/** Promises 9 and 10: trim, pass. */
final class TrimPassTest {
    private static final int[] NO_CONES = {Integer.MIN_VALUE, -1, 2, 11, 12, Integer.MAX_VALUE};

    public static void main(String[] args) {
        ostrichIsAllowedEver();
        egretIsAllowedAheadOfTheYear5();
        eagleIsAllowedAheadOfTheYear2();
        otherWordsAreNoFeather();
        trimmedOnce();
        trimOfNoCone();
        coneIsTrimmedInAnyState();
        daysAndYears();
        eachDayOfTheFirstYears();
        rangeOfDays();
        Check.end("TrimPassTest");
    }

    private static Yard withCones(int cones) {
        Yard yard = new Yard();
        yard.lotOf("wool", 5000);
        for (int cone = 0; cone < cones; cone++) {
            yard.cone(0, 10, 0);
        }
        return yard;
    }

    private static void goOn(Yard yard, int days) {
        for (int left = days; left > 0; left -= 30) {
            yard.pass(Math.min(30, left));
        }
    }

    private static void allowed(String feather, int days, boolean want) {
        Yard yard = withCones(1);
        goOn(yard, days);
        Check.due(feather + " after " + days, yard.type(feather).trim(0), want);
        yard.hasNothingTyped();
        if (want) {
            yard.refuses("trim once more", Check.STATE, y -> y.trim(0) ? 1 : 0);
        } else {
            Check.due("nothing instead", yard.trim(0), false);
            Check.due("ostrich instead", yard.type("ostrich").trim(0), true);
        }
    }

    /** "ostrich, which is allowed ever". */
    private static void ostrichIsAllowedEver() {
        for (int days : new int[] {0, 19, 20, 49, 50, 51, 4000}) {
            allowed("ostrich", days, true);
        }
    }

    /** "egret, allowed ahead of the year 5". */
    private static void egretIsAllowedAheadOfTheYear5() {
        for (int days : new int[] {0, 10, 20, 40, 48, 49}) {
            allowed("egret", days, true);
        }
        for (int days : new int[] {50, 51, 59, 60, 500, 4000}) {
            allowed("egret", days, false);
        }
    }

    /** "eagle, ahead of the year 2". */
    private static void eagleIsAllowedAheadOfTheYear2() {
        for (int days : new int[] {0, 9, 10, 18, 19}) {
            allowed("eagle", days, true);
        }
        for (int days : new int[] {20, 21, 29, 30, 49, 50, 4000}) {
            allowed("eagle", days, false);
        }
    }

    /** "other words are none". */
    private static void otherWordsAreNoFeather() {
        for (String word : new String[] {"", "e", "eag", "eagles", "egre", "egrets", "ostric", "wool", "hare", "fagle",
            "egred", "ostrish", "cone", "hat"}) {
            allowed(word, 0, false);
        }
    }

    /** "A cone can be trimmed with one that is allowed, once", "IllegalStateException if it is trimmed". */
    private static void trimmedOnce() {
        Yard yard = withCones(2);
        Check.due("trim 0", yard.type("egret").trim(0), true);
        yard.refuses("trim 0 with nothing", Check.STATE, y -> y.trim(0) ? 1 : 0);
        yard.type("eagle");
        yard.refuses("trim 0 with eagle", Check.STATE, y -> y.trim(0) ? 1 : 0);
        Check.due("eagle stays typed", yard.trim(1), true);
        yard.refuses("trim 1 once more", Check.STATE, y -> y.trim(1) ? 1 : 0);
        yard.pass(30);
        yard.pass(30);
        yard.type("egret");
        yard.refuses("trim 1 with what is not allowed", Check.STATE, y -> y.trim(1) ? 1 : 0);
        Yard twelve = withCones(12);
        Check.due("trim the last", twelve.type("eagle").trim(11), true);
        Check.due("trim the first", twelve.type("eagle").trim(0), true);
        twelve.refuses("trim the last once more", Check.STATE, y -> y.trim(11) ? 1 : 0);
        Check.due("the one between", twelve.type("eagle").trim(5), true);
    }

    private static void trimOfNoCone() {
        Yard yard = withCones(2);
        yard.type("ostrich");
        for (int cone : NO_CONES) {
            yard.refuses("trim " + cone, Check.INDEX, y -> y.trim(cone) ? 1 : 0);
        }
        Check.due("ostrich stays typed", yard.trim(0), true);
        Check.due("and for the other cone there is none", yard.trim(1), false);
        for (int cone : NO_CONES) {
            yard.refuses("trim " + cone + " with nothing", Check.INDEX, y -> y.trim(cone) ? 1 : 0);
        }
    }

    private static void coneIsTrimmedInAnyState() {
        Yard yard = Yard.withCone("beaver", 500, 0, 10);
        yard.block(700, 1);
        Check.due("trim ahead of a draw", yard.type("egret").trim(0), true);
        Check.due("draw a trimmed cone", yard.draw(0, 0), 0);
        yard.refuses("trim once more behind a draw", Check.STATE, y -> y.trim(0) ? 1 : 0);
        yard.cone(0, 100, 0);
        Check.due("trim ahead of a cycle", yard.type("eagle").trim(1), true);
        Check.due("cycle of a trimmed cone", yard.cycle(1, 0), 1140);
        yard.refuses("trim once more behind a cycle", Check.STATE, y -> y.trim(1) ? 1 : 0);
        Yard drawn = Yard.withCone("beaver", 500, 0, 10);
        drawn.block(700, 1);
        drawn.draw(0, 0);
        Check.due("trim a drawn cone", drawn.type("ostrich").trim(0), true);
    }

    /** "Years are counted from 0", "10 days are a year". */
    private static void daysAndYears() {
        Yard yard = new Yard();
        Check.due("9 days", yard.pass(9), 0);
        Check.due("10 days", yard.pass(1), 1);
        Check.due("40 days", yard.pass(30), 4);
        Check.due("59 days", yard.pass(19), 5);
        Check.due("60 days", yard.pass(1), 6);
        Check.due("89 days", yard.pass(29), 8);
        Check.due("119 days", yard.pass(30), 11);
    }

    private static void eachDayOfTheFirstYears() {
        Yard yard = new Yard();
        for (int day = 1; day <= 120; day++) {
            Check.due("year after " + day, yard.pass(1), Math.floorDiv(day, 10));
        }
        for (int days = 1; days <= 30; days++) {
            Check.due("year after " + days + " at once", new Yard().pass(days), Math.floorDiv(days, 10));
        }
    }

    /** "days: 1 to 30". */
    private static void rangeOfDays() {
        Yard yard = new Yard();
        yard.hand();
        Check.due("9 days", yard.pass(9), 0);
        yard.lotOf("wool", 100);
        yard.cone(0, 100, 0);
        yard.cycle(0, 0);
        for (int days : new int[] {Integer.MIN_VALUE, -30, -1, 0, 31, 300, Integer.MAX_VALUE}) {
            yard.refuses("pass " + days, Check.ARGUMENT, y -> y.pass(days));
        }
        Check.due("the air of today is kept", yard.air(0, true), 2);
        Check.due("day 10", yard.pass(1), 1);
        Check.due("day 40", yard.pass(30), 4);
        Check.due("the air of today is gone", yard.air(0, true), 0);
    }
}
