import java.lang.reflect.Constructor;
import java.lang.reflect.Field;
import java.lang.reflect.Method;
import java.lang.reflect.Modifier;
import java.util.Arrays;
import java.util.TreeSet;

/** Promise 1, the public face, and the 512 calls of an object. */
final class NewYardTest {
    private static final int[] NUMBERS = {Integer.MIN_VALUE, -1, 0, 1, 5, 6, 7, 8, 9, 10, 11, 12, Integer.MAX_VALUE};

    public static void main(String[] args) {
        withoutLotsConesBlocksAndHands();
        aConeHasNeitherBlockNorHandYet();
        numbersBeginAtNone();
        nothingIsTyped();
        noHeadIsMeasured();
        firstDayOfTheYear0();
        yardsAreApart();
        faceIsTheDocuments();
        throwsClausesAreTheDocuments();
        answersUpToTheLastCall();
        Check.end("NewYardTest");
    }

    /** "without lots, cones, blocks and hands": each number that is asked for is none. */
    private static void withoutLotsConesBlocksAndHands() {
        for (int number : NUMBERS) {
            Yard yard = new Yard();
            yard.refuses("grams", Check.INDEX, y -> y.grams(number));
            yard.refuses("cone", Check.INDEX, y -> y.cone(number, 10, 0));
            yard.refuses("air of today", Check.INDEX, y -> y.air(number, true));
            yard.refuses("air of all days", Check.INDEX, y -> y.air(number, false));
            yard.refuses("cycle", Check.INDEX, y -> y.cycle(number, number));
            yard.refuses("draw", Check.INDEX, y -> y.draw(number, number));
            yard.refuses("trim", Check.INDEX, y -> y.trim(number) ? 1 : 0);
            yard.refuses("about", Check.INDEX, y -> y.about(number, 0, 0));
            yard.refuses("widthAnew", Check.INDEX, y -> y.widthAnew(number, 0));
            yard.refuses("brim", Check.INDEX, y -> y.brim(number, 60));
            yard.refuses("fits", Check.INDEX, y -> y.fits(number) ? 1 : 0);
        }
    }

    private static void aConeHasNeitherBlockNorHandYet() {
        Yard yard = new Yard();
        yard.lotOf("wool", 100);
        yard.refuses("cycle without a hand and a cone", Check.INDEX, y -> y.cycle(0, 0));
        yard.hand();
        yard.block(300, 1);
        yard.refuses("cycle without a cone", Check.INDEX, y -> y.cycle(0, 0));
        yard.refuses("draw without a cone", Check.INDEX, y -> y.draw(0, 0));
        Yard other = new Yard();
        other.lotOf("wool", 100);
        other.cone(0, 100, 0);
        for (int number : NUMBERS) {
            other.refuses("cycle without a hand", Check.INDEX, y -> y.cycle(0, number));
            other.refuses("draw without a block", Check.INDEX, y -> y.draw(0, number));
        }
    }

    private static void numbersBeginAtNone() {
        Check.due("NONE", HatbandYard.NONE, -1);
        Yard yard = new Yard();
        Check.due("first hand", yard.hand(), 0);
        Check.due("first block", yard.block(300, 1), 0);
        Check.due("first lot", yard.lotOf("wool", 10), 0);
        Check.due("first cone", yard.cone(0, 10, 0), 0);
        Check.due("second hand", yard.hand(), 1);
        Check.due("second block", yard.block(300, 1), 1);
        Check.due("second lot", yard.lotOf("wool", 10), 1);
        Check.due("second cone", yard.cone(1, 10, 0), 1);
    }

    private static void nothingIsTyped() {
        new Yard().hasNothingTyped();
        Check.due("lot of no word", new Yard().lot(1), HatbandYard.NONE);
        Check.due("count of no word", new Yard().count(1), HatbandYard.NONE);
        Check.due("countAnew of no word", new Yard().countAnew(1), HatbandYard.NONE);
        Check.due("rows of no word", new Yard().rows(1), HatbandYard.NONE);
    }

    /** "eight radii, 0 to 200, in millimetres, 0 at first". */
    private static void noHeadIsMeasured() {
        for (int radius = 0; radius < 8; radius++) {
            Check.due("around with radius " + radius + " alone", new Yard().measure(radius, 200), 157);
            Check.due("around a head not measured", new Yard().measure(radius, 0), 0);
        }
        Yard yard = new Yard();
        Check.dueFloat("land 0 of no head", yard.size(0), 0.0f);
        Check.dueFloat("land 1 of no head", yard.size(1), 0.0f);
        Check.dueFloat("land 2 of no head", yard.size(2), 0.125f);
        Check.dueFloat("land 3 of no head", yard.size(3), 0.0f);
    }

    private static void firstDayOfTheYear0() {
        Yard yard = new Yard();
        Check.due("pass to the last day of the year 0", yard.pass(9), 0);
        Check.due("pass to the first day of the year 1", yard.pass(1), 1);
        Check.due("10 days at once", new Yard().pass(10), 1);
    }

    private static void yardsAreApart() {
        Yard one = new Yard();
        Yard other = new Yard();
        one.lotOf("hare", 50);
        one.cone(0, 20, 0);
        one.block(300, 1);
        one.letter('x');
        one.hand();
        one.measure(0, 100);
        one.pass(15);
        other.refuses("grams of another yard's lot", Check.INDEX, y -> y.grams(0));
        other.refuses("fits of another yard's cone", Check.INDEX, y -> y.fits(0) ? 1 : 0);
        other.refuses("air of another yard's hand", Check.INDEX, y -> y.air(0, false));
        Check.due("a word is typed in one yard", other.letter('a'), 1);
        Check.due("a head is measured in one yard", other.measure(1, 0), 0);
        Check.due("days go by in one yard", other.pass(9), 0);
        Check.due("blocks are made in one yard", other.block(300, 1), 0);
    }

    private static void faceIsTheDocuments() {
        TreeSet<String> names = new TreeSet<>();
        for (Method method : HatbandYard.class.getDeclaredMethods()) {
            if (!Modifier.isPrivate(method.getModifiers()) && !method.isSynthetic()) {
                names.add(method.getReturnType() + " " + method.getName() + Arrays.toString(method.getParameterTypes()));
            }
        }
        TreeSet<String> due = new TreeSet<>(Arrays.asList("int letter[char]", "int lot[int]", "int cone[int, int, int]",
            "int hand[]", "int cycle[int, int]", "int block[int, int]", "int draw[int, int]", "boolean trim[int]",
            "int pass[int]", "int about[int, int, int]", "int widthAnew[int, int]", "int brim[int, int]",
            "int count[int]", "int countAnew[int]", "int rows[int]", "int measure[int, int]", "boolean fits[int]",
            "int size[int]", "int air[int, boolean]", "int grams[int]"));
        Check.due("the face has the document's methods alone: " + names, names.equals(due), true);
        int fields = 0;
        for (Field field : HatbandYard.class.getDeclaredFields()) {
            fields += Modifier.isPrivate(field.getModifiers()) || field.isSynthetic() ? 0 : 1;
        }
        Check.due("fields that are not private", fields, 1);
        Constructor<?>[] constructors = HatbandYard.class.getConstructors();
        Check.due("constructors", constructors.length, 1);
        Check.due("the class is final", Modifier.isFinal(HatbandYard.class.getModifiers()), true);
    }

    private static void throwsClausesAreTheDocuments() {
        Class<?>[] all = {Check.INDEX, Check.ARGUMENT, Check.STATE};
        String[] due = {"letter 12", "lot 12", "cone 012", "hand 2", "cycle 02", "block 12", "draw 0", "trim 02", "pass 1",
            "about 01", "widthAnew 0", "brim 01", "count 1", "countAnew 1", "rows 1", "measure 01", "fits 0", "size 0",
            "air 0", "grams 0"};
        TreeSet<String> got = new TreeSet<>();
        for (Method method : HatbandYard.class.getDeclaredMethods()) {
            if (Modifier.isPublic(method.getModifiers())) {
                StringBuilder clause = new StringBuilder(method.getName()).append(' ');
                for (Class<?> thrown : method.getExceptionTypes()) {
                    clause.append(Arrays.asList(all).indexOf(thrown));
                }
                got.add(clause.toString());
            }
        }
        Check.same("throws clauses", got.toString(), new TreeSet<>(Arrays.asList(due)).toString());
    }

    /** "An object is used for at most 512 calls": the last of them answers as the first. */
    private static void answersUpToTheLastCall() {
        Yard days = new Yard();
        for (int call = 1; call <= Yard.MOST_CALLS; call++) {
            Check.due("year after " + call + " times 30 days", days.pass(30), 3 * call);
        }
        Yard words = new Yard();
        for (int call = 1; call <= Yard.MOST_CALLS; call += 8) {
            Check.due("lot of a word of 7 letters", words.type("ostrich").lot(1), HatbandYard.NONE);
        }
        Yard questions = Yard.withCone("wool", 500, 0, 0);
        for (int call = 8; call < Yard.MOST_CALLS; call++) {
            Check.due("width anew after " + call, questions.widthAnew(0, 5), 450);
        }
        Check.due("cycle as the last call", questions.cycle(0, 0), 1080);
    }
}
