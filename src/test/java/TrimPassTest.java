/** Promises 9 and 10: trim, pass. */
final class TrimPassTest {
    public static void main(String[] args) {
        ostrichIsAllowedEver();
        egretIsAllowedAheadOfTheYear5();
        eagleIsAllowedAheadOfTheYear2();
        otherWordsAreNoFeather();
        trimmedOnce();
        daysAndYears();
        rangeOfDays();
        Check.end("TrimPassTest");
    }

    private static HatbandYard yardWithCones(int cones) {
        HatbandYard yard = new HatbandYard();
        Check.lotOf(yard, "wool", 5000);
        for (int cone = 0; cone < cones; cone++) {
            yard.cone(0, 10, 0);
        }
        return yard;
    }

    private static void goOn(HatbandYard yard, int days) {
        for (int left = days; left > 0; left -= 30) {
            yard.pass(Math.min(30, left));
        }
    }

    private static void allowed(String feather, int days, boolean want) {
        HatbandYard yard = yardWithCones(1);
        goOn(yard, days);
        Check.due(feather + " after " + days, Check.type(yard, feather).trim(0), want);
        Check.nothingTyped(yard);
        if (want) {
            Check.throwing(yard, "trim once more", Check.STATE, () -> yard.trim(0));
        } else {
            Check.due("ostrich instead", Check.type(yard, "ostrich").trim(0), true);
        }
    }

    private static void ostrichIsAllowedEver() {
        allowed("ostrich", 0, true);
        allowed("ostrich", 50, true);
        allowed("ostrich", 9000, true);
    }

    private static void egretIsAllowedAheadOfTheYear5() {
        allowed("egret", 0, true);
        allowed("egret", 49, true);
        allowed("egret", 50, false);
        allowed("egret", 500, false);
    }

    private static void eagleIsAllowedAheadOfTheYear2() {
        allowed("eagle", 0, true);
        allowed("eagle", 19, true);
        allowed("eagle", 20, false);
        allowed("eagle", 49, false);
    }

    private static void otherWordsAreNoFeather() {
        for (String word : new String[] {"", "e", "eag", "eagles", "egre", "egrets", "ostric", "wool", "hare", "fagle"}) {
            allowed(word, 0, false);
        }
    }

    private static void trimmedOnce() {
        HatbandYard yard = yardWithCones(2);
        Check.due("trim 0", Check.type(yard, "egret").trim(0), true);
        Check.type(yard, "eagle");
        Check.throwing(yard, "trim 0 once more", Check.STATE, () -> yard.trim(0));
        for (int cone : new int[] {Integer.MIN_VALUE, -1, 2, 11, 12, Integer.MAX_VALUE}) {
            Check.throwing(yard, "trim " + cone, Check.INDEX, () -> yard.trim(cone));
        }
        Check.due("eagle stays typed", yard.trim(1), true);
        Check.throwing(yard, "trim 1 once more", Check.STATE, () -> yard.trim(1));
    }

    private static void daysAndYears() {
        HatbandYard yard = new HatbandYard();
        Check.due("9 days", yard.pass(9), 0);
        Check.due("10 days", yard.pass(1), 1);
        Check.due("40 days", yard.pass(30), 4);
        Check.due("59 days", yard.pass(19), 5);
        Check.due("60 days", yard.pass(1), 6);
    }

    private static void rangeOfDays() {
        HatbandYard yard = new HatbandYard();
        yard.hand();
        yard.pass(9);
        Check.lotOf(yard, "wool", 100);
        yard.cone(0, 100, 0);
        yard.cycle(0, 0);
        for (int days : new int[] {Integer.MIN_VALUE, -1, 0, 31, Integer.MAX_VALUE}) {
            Check.throwing(yard, "pass " + days, Check.ARGUMENT, () -> yard.pass(days));
        }
        Check.due("the air of today is kept", yard.air(0, true), 2);
        Check.due("day 10", yard.pass(1), 1);
        Check.due("day 40", yard.pass(30), 4);
    }
}
