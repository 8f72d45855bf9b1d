import java.lang.reflect.Constructor;
import java.lang.reflect.Field;
import java.lang.reflect.Method;
import java.lang.reflect.Modifier;
import java.util.Arrays;
import java.util.TreeSet;

/** Promise 1, and the public face. */
final class NewYardTest {
    public static void main(String[] args) {
        beginsEmpty();
        beginsOnTheFirstDay();
        yardsAreApart();
        faceIsTheDocuments();
        Check.end("NewYardTest");
    }

    private static void beginsEmpty() {
        HatbandYard yard = new HatbandYard();
        Check.due("NONE", HatbandYard.NONE, -1);
        for (int number : new int[] {Integer.MIN_VALUE, -1, 0, 1, 5, 6, 12, Integer.MAX_VALUE}) {
            Check.throwing(yard, "grams", Check.INDEX, () -> yard.grams(number));
            Check.throwing(yard, "fits", Check.INDEX, () -> yard.fits(number));
            Check.throwing(yard, "air", Check.INDEX, () -> yard.air(number, true));
            Check.throwing(yard, "cone", Check.INDEX, () -> yard.cone(number, 10, 0));
        }
        for (int radius = 0; radius < 8; radius++) {
            Check.due("around a head not measured", yard.measure(radius, 0), 0);
        }
        Check.due("size of no head", yard.size(0), Float.floatToIntBits(0.0f));
        Check.nothingTyped(yard);
        Check.due("first hand", yard.hand(), 0);
        Check.due("first block", yard.block(300, 1), 0);
        Check.due("first lot", Check.lotOf(yard, "wool", 10), 0);
        Check.throwing(yard, "draw without a cone", Check.INDEX, () -> yard.draw(0, 0));
        Check.due("first cone", yard.cone(0, 10, 0), 0);
    }

    private static void beginsOnTheFirstDay() {
        HatbandYard yard = new HatbandYard();
        Check.due("pass to the last day of the year 0", yard.pass(9), 0);
        Check.due("pass to the year 1", yard.pass(1), 1);
    }

    private static void yardsAreApart() {
        HatbandYard one = new HatbandYard();
        HatbandYard other = new HatbandYard();
        Check.lotOf(one, "hare", 50);
        one.letter('x');
        one.hand();
        one.measure(0, 100);
        Check.throwing(other, "grams of another yard's lot", Check.INDEX, () -> other.grams(0));
        Check.throwing(other, "air of another yard's hand", Check.INDEX, () -> other.air(0, false));
        Check.due("a word is typed in one yard", other.letter('a'), 1);
        Check.due("a head is measured in one yard", other.measure(1, 0), 0);
    }

    private static void faceIsTheDocuments() {
        TreeSet<String> names = new TreeSet<>();
        for (Method method : HatbandYard.class.getDeclaredMethods()) {
            if (!Modifier.isPrivate(method.getModifiers()) && !method.isSynthetic()) {
                names.add(method.getReturnType() + " " + method.getName() + Arrays.toString(method.getParameterTypes()));
            }
        }
        TreeSet<String> due = new TreeSet<>(Arrays.asList("int letter[char]", "int lot[int]", "int cone[int, int, int]",
            "int hand[]", "int cycle[int, int]", "int block[int, int]", "int draw[int, int]", "boolean trim[int]",
            "int pass[int]", "int about[int, int, int]", "int widthAnew[int, int]", "int brim[int, int]",
            "int count[int]", "int countAnew[int]", "int rows[int]", "int measure[int, int]", "boolean fits[int]",
            "int size[int]", "int air[int, boolean]", "int grams[int]"));
        Check.due("the face has the document's methods alone: " + names, names.equals(due), true);
        int fields = 0;
        for (Field field : HatbandYard.class.getDeclaredFields()) {
            fields += Modifier.isPrivate(field.getModifiers()) || field.isSynthetic() ? 0 : 1;
        }
        Check.due("fields that are not private", fields, 1);
        Constructor<?>[] constructors = HatbandYard.class.getConstructors();
        Check.due("constructors", constructors.length, 1);
        Check.due("the class is final", Modifier.isFinal(HatbandYard.class.getModifiers()), true);
    }
}
