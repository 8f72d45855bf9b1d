/** Promises 2, 3 and 21: letter, lot, grams. */
final class LetterLotTest {
    public static void main(String[] args) {
        lettersAreCounted();
        onlySmallLettersAreLetters();
        eighthLetterIsRefused();
        eachFurIsBought();
        otherWordsAreNoFur();
        gramsOfALotHaveARange();
        eleventhLotIsRefused();
        gramsTellWhatIsLeft();
        Check.end("LetterLotTest");
    }

    private static void lettersAreCounted() {
        HatbandYard yard = new HatbandYard();
        Check.type(yard, "azazaza");
        Check.due("lot of a word that is none", yard.lot(1), HatbandYard.NONE);
        Check.nothingTyped(yard);
    }

    private static void onlySmallLettersAreLetters() {
        HatbandYard yard = new HatbandYard();
        yard.letter('m');
        char[] none = {'A', 'Z', '`', '{', ' ', '0', (char) 0, (char) 228, (char) 255, (char) 353, (char) 65535};
        for (char sign : none) {
            Check.throwing(yard, "letter " + (int) sign, Check.ARGUMENT, () -> yard.letter(sign));
        }
        for (char sign = 'a'; sign <= 'z'; sign++) {
            HatbandYard other = new HatbandYard();
            Check.due("letter " + sign, other.letter(sign), 1);
        }
        Check.due("letter after refused ones", yard.letter('n'), 2);
    }

    private static void eighthLetterIsRefused() {
        HatbandYard yard = new HatbandYard();
        Check.lotOf(yard, "wool", 10);
        yard.cone(0, 10, 0);
        Check.type(yard, "ostrich");
        Check.throwing(yard, "eighth letter", Check.STATE, () -> yard.letter('a'));
        Check.throwing(yard, "eighth letter, none", Check.ARGUMENT, () -> yard.letter('A'));
        Check.due("ostrich stays typed", yard.trim(0), true);
        Check.due("letter after the word went", yard.letter('a'), 1);
    }

    private static void eachFurIsBought() {
        String[] furs = {"rabbit", "wool", "beaver", "hare"};
        int[] widthAfterCycle = {1104, 1080, 1140, 1116};
        int[] heightAfterCycle = {56, 54, 57, 56};
        int[] air = {8, 2, 5, 12};
        HatbandYard yard = new HatbandYard();
        for (int i = 0; i < furs.length; i++) {
            Check.due("lot of " + furs[i], Check.lotOf(yard, furs[i], 1000 + i), i);
            Check.nothingTyped(yard);
            Check.due("grams of " + furs[i], yard.grams(i), 1000 + i);
            yard.cone(i, 100, 0);
            yard.hand();
            Check.due("cycle of " + furs[i], yard.cycle(i, i), widthAfterCycle[i]);
            Check.due("height of " + furs[i], yard.about(i, 3, 1), heightAfterCycle[i]);
            Check.due("air of " + furs[i], yard.air(i, true), air[i]);
        }
    }

    private static void otherWordsAreNoFur() {
        HatbandYard yard = new HatbandYard();
        for (String word : new String[] {"", "w", "woo", "wools", "har", "hares", "rabbi", "rabbits", "beavers", "egret",
            "flat", "loow", "hard", "bool", "xare", "beavex"}) {
            Check.due("lot of " + word, Check.lotOf(yard, word, 5000), HatbandYard.NONE);
            Check.nothingTyped(yard);
        }
        Check.throwing(yard, "grams after no lot", Check.INDEX, () -> yard.grams(0));
        Check.due("first lot after those", Check.lotOf(yard, "hare", 1), 0);
    }

    private static void gramsOfALotHaveARange() {
        HatbandYard yard = Check.type(new HatbandYard(), "wool");
        for (int grams : new int[] {Integer.MIN_VALUE, -1, 0, 5001, Integer.MAX_VALUE}) {
            Check.throwing(yard, "lot of " + grams, Check.ARGUMENT, () -> yard.lot(grams));
        }
        Check.due("the word stays typed, 1 is bought", yard.lot(1), 0);
        Check.due("5000 is bought", Check.lotOf(yard, "wool", 5000), 1);
        Check.due("1", yard.grams(0), 1);
        Check.due("5000", yard.grams(1), 5000);
    }

    private static void eleventhLotIsRefused() {
        HatbandYard yard = new HatbandYard();
        for (int lot = 0; lot < 10; lot++) {
            Check.due("lot " + lot, Check.lotOf(yard, "hare", 10 + lot), lot);
        }
        Check.throwing(yard, "lot 10 of no word", Check.STATE, () -> yard.lot(1));
        Check.type(yard, "wool");
        Check.throwing(yard, "lot 10", Check.STATE, () -> yard.lot(1));
        Check.throwing(yard, "lot 10 of 0 grams", Check.ARGUMENT, () -> yard.lot(0));
        Check.due("wool stays typed", yard.letter('s'), 5);
        Check.due("grams of the last", yard.grams(9), 19);
    }

    private static void gramsTellWhatIsLeft() {
        HatbandYard yard = new HatbandYard();
        Check.lotOf(yard, "wool", 600);
        Check.lotOf(yard, "hare", 10);
        yard.cone(0, 500, 1);
        Check.due("what is left of lot 0", yard.grams(0), 100);
        Check.due("lot 1 keeps its grams", yard.grams(1), 10);
        yard.cone(1, 10, 1);
        Check.due("nothing is left of lot 1", yard.grams(1), 0);
        for (int lot : new int[] {Integer.MIN_VALUE, -1, 2, 9, 10, Integer.MAX_VALUE}) {
            Check.throwing(yard, "grams of " + lot, Check.INDEX, () -> yard.grams(lot));
        }
    }
}
