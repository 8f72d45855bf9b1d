/** Promises 2, 3 and 21: letter, lot, grams. */
final class LetterLotTest {
    private static final String[] FURS = {"rabbit", "wool", "beaver", "hare"};

    public static void main(String[] args) {
        eachOfAToZIsALetter();
        otherSignsAreNone();
        lettersAreCountedUpTo7();
        eighthLetterIsRefused();
        eachFurIsBought();
        otherWordsAreNoFur();
        nothingIsTypedThen();
        wordStaysTypedInOtherCalls();
        gramsOfALotHaveARange();
        tenLotsAndNoMore();
        noFurWhereThereAreTenLots();
        argumentAheadOfState();
        gramsTellWhatIsLeft();
        gramsOfNoLot();
        Check.end("LetterLotTest");
    }

    /** "letter: a to z". */
    private static void eachOfAToZIsALetter() {
        for (char sign = 'a'; sign <= 'z'; sign++) {
            Check.due("letter " + sign, new Yard().letter(sign), 1);
        }
    }

    /** "IllegalArgumentException if letter is none of these": each other char, the ones beside a and z with a look. */
    private static void otherSignsAreNone() {
        Yard yard = new Yard().type("har");
        char[] near = {'a' - 1, 'z' + 1, 'A', 'Z', ' ', '0', (char) 0, (char) 228, (char) 255, (char) 353, (char) 65535};
        for (char sign : near) {
            yard.refuses("letter " + (int) sign, Check.ARGUMENT, y -> y.letter(sign));
        }
        Check.due("letter after refused ones", yard.letter('e'), 4);
        Check.due("hare was typed", yard.lot(1), 0);
        for (int sign = 0; sign <= 65535; sign++) {
            char letter = (char) sign;
            boolean isLetter = sign >= 'a' && sign <= 'z';
            Check.threw("letter " + sign, new Yard().thrownBy(y -> y.letter(letter)), isLetter ? null : Check.ARGUMENT);
        }
    }

    /** "Returns how many it has then." */
    private static void lettersAreCountedUpTo7() {
        Yard yard = new Yard();
        for (int letters = 1; letters <= 7; letters++) {
            Check.due("letter " + letters, yard.letter('z'), letters);
        }
    }

    /** "IllegalStateException if it has 7", behind the argument. */
    private static void eighthLetterIsRefused() {
        Yard yard = new Yard();
        yard.lotOf("wool", 10);
        yard.cone(0, 10, 0);
        yard.type("ostric");
        Check.due("seventh letter", yard.letter('h'), 7);
        yard.refuses("eighth letter, a", Check.STATE, y -> y.letter('a'));
        yard.refuses("eighth letter, z", Check.STATE, y -> y.letter('z'));
        yard.refuses("eighth letter, A", Check.ARGUMENT, y -> y.letter('A'));
        yard.refuses("eighth letter, {", Check.ARGUMENT, y -> y.letter('{'));
        Check.due("ostrich stays typed", yard.trim(0), true);
        Check.due("letter after the word went", yard.letter('a'), 1);
    }

    private static void eachFurIsBought() {
        int[] widthAfterCycle = {1104, 1080, 1140, 1116};
        int[] heightAfterCycle = {56, 54, 57, 56};
        int[] air = {8, 2, 5, 12};
        Yard yard = new Yard();
        for (int i = 0; i < FURS.length; i++) {
            Check.due("lot of " + FURS[i], yard.lotOf(FURS[i], 1000 + i), i);
            yard.hasNothingTyped();
            Check.due("grams of " + FURS[i], yard.grams(i), 1000 + i);
            yard.cone(i, 100, 0);
            yard.hand();
            Check.due("cycle of " + FURS[i], yard.cycle(i, i), widthAfterCycle[i]);
            Check.due("height of " + FURS[i], yard.about(i, 3, 1), heightAfterCycle[i]);
            Check.due("air of " + FURS[i], yard.air(i, true), air[i]);
        }
    }

    /** "NONE if the word is no fur": nothing is bought, and no number is used. */
    private static void otherWordsAreNoFur() {
        String[] words = {"", "w", "woo", "wools", "wo", "har", "hares", "harer", "rabbi", "rabbits", "beavers", "beave",
            "egret", "eagle", "ostrich", "flat", "cone", "dome", "brim", "loow", "hard", "bool", "xare", "beavex", "tibbar"};
        Yard yard = new Yard();
        for (String word : words) {
            Check.due("lot of " + word, yard.lotOf(word, 5000), HatbandYard.NONE);
            yard.hasNothingTyped();
        }
        yard.refuses("grams after no lot", Check.INDEX, y -> y.grams(0));
        Check.due("first lot after those", yard.lotOf("hare", 1), 0);
        Check.due("no fur behind a lot", yard.lotOf("hat", 1), HatbandYard.NONE);
        Check.due("second lot after that", yard.lotOf("hare", 1), 1);
    }

    /** "nothing is typed then": a word is bought by once. */
    private static void nothingIsTypedThen() {
        for (String fur : FURS) {
            Yard yard = new Yard();
            Check.due("lot of " + fur, yard.lotOf(fur, 1), 0);
            Check.due("lot of nothing then", yard.lot(1), HatbandYard.NONE);
        }
        Yard yard = new Yard();
        yard.lotOf("rab", 1);
        Check.due("lot of the second half", yard.lotOf("bit", 1), HatbandYard.NONE);
    }

    /** Only lot, trim, count, countAnew and rows are said to leave nothing typed. */
    private static void wordStaysTypedInOtherCalls() {
        Yard yard = Yard.withCone("beaver", 500, 0, 10);
        yard.block(700, 1);
        yard.block(300, 6);
        yard.block(700, 6);
        yard.cone(0, 10, 0);
        yard.type("dome");
        Yard.Call[] others = {y -> y.draw(1, 0), y -> y.draw(0, 1), y -> y.draw(0, 2), y -> y.draw(0, 0), y -> y.hand(),
            y -> y.cone(0, 10, 0), y -> y.cycle(1, 0), y -> y.block(300, 1), y -> y.pass(1), y -> y.pass(30),
            y -> y.about(0, 0, 0), y -> y.widthAnew(0, 0), y -> y.brim(0, 60), y -> y.measure(0, 100),
            y -> y.fits(0) ? 1 : 0, y -> y.size(0), y -> y.air(0, true), y -> y.grams(0)};
        for (int call = 0; call < others.length; call++) {
            Check.threw("call " + call, yard.thrownBy(others[call]), null);
            Check.due("dome stays typed behind call " + call, yard.twin().rows(57), 17);
        }
    }

    /** "grams: 1 to 5000". */
    private static void gramsOfALotHaveARange() {
        Yard yard = new Yard().type("wool");
        for (int grams : new int[] {Integer.MIN_VALUE, -1, 0, 5001, Integer.MAX_VALUE}) {
            yard.refuses("lot of " + grams, Check.ARGUMENT, y -> y.lot(grams));
            new Yard().refuses("lot of " + grams + " without a word", Check.ARGUMENT, y -> y.lot(grams));
        }
        Check.due("the word stays typed, 1 is bought", yard.lot(1), 0);
        Check.due("5000 is bought", yard.lotOf("wool", 5000), 1);
        Check.due("2 is bought", yard.lotOf("wool", 2), 2);
        Check.due("4999 is bought", yard.lotOf("wool", 4999), 3);
        Check.due("1", yard.grams(0), 1);
        Check.due("5000", yard.grams(1), 5000);
        Check.due("2", yard.grams(2), 2);
        Check.due("4999", yard.grams(3), 4999);
    }

    private static Yard withTenLots() {
        Yard yard = new Yard();
        for (int lot = 0; lot < 10; lot++) {
            Check.due("lot " + lot, yard.lotOf(FURS[lot % 4], 10 + lot), lot);
        }
        return yard;
    }

    /** "Lots are numbered from 0, at most 10", "IllegalStateException if there are 10". */
    private static void tenLotsAndNoMore() {
        Yard yard = withTenLots();
        for (int lot = 0; lot < 10; lot++) {
            Check.due("grams of lot " + lot, yard.grams(lot), 10 + lot);
        }
        yard.type("wool");
        yard.refuses("eleventh lot", Check.STATE, y -> y.lot(1));
        yard.refuses("eleventh lot of 5000", Check.STATE, y -> y.lot(5000));
        Check.due("wool stays typed", yard.letter('s'), 5);
        Check.due("count takes it", yard.count(1), HatbandYard.NONE);
        Check.due("a cone of the last lot", yard.cone(9, 19, 0), 0);
        Check.due("an empty lot stays a lot", yard.grams(9), 0);
        yard.type("wool");
        yard.refuses("eleventh lot, where one is empty", Check.STATE, y -> y.lot(1));
        yard.refuses("grams of lot 10", Check.INDEX, y -> y.grams(10));
    }

    /** "IllegalStateException if there are 10" names no word: the state is told whatever is typed. */
    private static void noFurWhereThereAreTenLots() {
        Yard yard = withTenLots();
        yard.refuses("eleventh lot of no word", Check.STATE, y -> y.lot(1));
        yard.type("dome");
        yard.refuses("eleventh lot of dome", Check.STATE, y -> y.lot(1));
        Check.due("dome stays typed", yard.count(3), 35);
    }

    private static void argumentAheadOfState() {
        Yard yard = withTenLots();
        yard.type("hare");
        for (int grams : new int[] {Integer.MIN_VALUE, 0, 5001, Integer.MAX_VALUE}) {
            yard.refuses("eleventh lot of " + grams, Check.ARGUMENT, y -> y.lot(grams));
        }
    }

    /** "Returns how many grams a lot has": what cones took is not there any more. */
    private static void gramsTellWhatIsLeft() {
        Yard yard = new Yard();
        yard.lotOf("wool", 600);
        yard.lotOf("hare", 10);
        yard.cone(0, 500, 1);
        Check.due("what is left of lot 0", yard.grams(0), 100);
        Check.due("lot 1 keeps its grams", yard.grams(1), 10);
        yard.cone(1, 10, 1);
        Check.due("nothing is left of lot 1", yard.grams(1), 0);
        yard.hand();
        yard.cycle(0, 0);
        Check.due("a cycle takes nothing of lot 0", yard.grams(0), 100);
    }

    private static void gramsOfNoLot() {
        Yard yard = new Yard();
        yard.lotOf("wool", 600);
        yard.lotOf("hare", 10);
        for (int lot : new int[] {Integer.MIN_VALUE, -1, 2, 9, 10, 11, Integer.MAX_VALUE}) {
            yard.refuses("grams of " + lot, Check.INDEX, y -> y.grams(lot));
        }
    }
}
