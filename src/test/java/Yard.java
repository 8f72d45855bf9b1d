import java.util.ArrayList;
import java.util.List;

/**
 * A HatbandYard whose calls are kept, so that twins with the same calls behind them can be made: what a refused
 * call changed is looked for on twins, and the yard itself goes on as it was. No yard takes more calls than the
 * 512 for which the document promises answers.
 */
final class Yard {
    static final int MOST_CALLS = 512;

    /** One call; a boolean counts 1 or 0. */
    interface Call {
        long on(HatbandYard yard);
    }

    private final HatbandYard yard = new HatbandYard();
    private final List<Call> calls = new ArrayList<>();

    int letter(char letter) {
        return (int) make(y -> y.letter(letter));
    }

    int lot(int grams) {
        return (int) make(y -> y.lot(grams));
    }

    int cone(int lot, int grams, int taper) {
        return (int) make(y -> y.cone(lot, grams, taper));
    }

    int hand() {
        return (int) make(y -> y.hand());
    }

    int cycle(int cone, int hand) {
        return (int) make(y -> y.cycle(cone, hand));
    }

    int block(int size, int depth) {
        return (int) make(y -> y.block(size, depth));
    }

    int draw(int cone, int block) {
        return (int) make(y -> y.draw(cone, block));
    }

    boolean trim(int cone) {
        return make(y -> y.trim(cone) ? 1 : 0) == 1;
    }

    int pass(int days) {
        return (int) make(y -> y.pass(days));
    }

    int about(int cone, int band, int what) {
        return (int) make(y -> y.about(cone, band, what));
    }

    int widthAnew(int cone, int band) {
        return (int) make(y -> y.widthAnew(cone, band));
    }

    int brim(int cone, int width) {
        return (int) make(y -> y.brim(cone, width));
    }

    int count(int rows) {
        return (int) make(y -> y.count(rows));
    }

    int countAnew(int rows) {
        return (int) make(y -> y.countAnew(rows));
    }

    int rows(int stitches) {
        return (int) make(y -> y.rows(stitches));
    }

    int measure(int radius, int length) {
        return (int) make(y -> y.measure(radius, length));
    }

    boolean fits(int cone) {
        return make(y -> y.fits(cone) ? 1 : 0) == 1;
    }

    int size(int land) {
        return (int) make(y -> y.size(land));
    }

    int air(int hand, boolean isToday) {
        return (int) make(y -> y.air(hand, isToday));
    }

    int grams(int lot) {
        return (int) make(y -> y.grams(lot));
    }

    private long make(Call call) {
        if (calls.size() >= MOST_CALLS) {
            throw new AssertionError("a test makes more than 512 calls on one yard");
        }
        calls.add(call);
        return call.on(yard);
    }

    /** Makes the call; the class of what it throws, null if it throws nothing. */
    Class<?> thrownBy(Call call) {
        try {
            make(call);
            return null;
        } catch (RuntimeException e) {
            return e.getClass();
        }
    }

    /** Makes the call; its answer or the name of what it throws. */
    String told(Call call) {
        try {
            return Long.toString(make(call));
        } catch (RuntimeException e) {
            return e.getClass().getSimpleName();
        }
    }

    Yard twin() {
        Yard twin = new Yard();
        for (Call call : calls) {
            twin.thrownBy(call);
        }
        return twin;
    }

    /** The call throws exactly that exception, and behind it the yard is as it was, in all that can be told of it. */
    void refuses(String name, Class<?> want, Call call) {
        for (Look look : Look.values()) {
            Yard without = twin();
            Yard with = twin();
            with.thrownBy(call);
            Check.same("behind " + name + ", by " + look, look.at(with), look.at(without));
        }
        Check.threw(name, thrownBy(call), want);
    }

    /** Types a word, of which nothing is typed yet. */
    Yard type(String word) {
        for (int i = 0; i < word.length(); i++) {
            Check.due("letter " + i + " of " + word, letter(word.charAt(i)), i + 1);
        }
        return this;
    }

    /** Nothing is typed: the next letter is the first; count takes it away again. */
    void hasNothingTyped() {
        Check.due("first letter where nothing is typed", letter('z'), 1);
        Check.due("count of no kind", count(1), HatbandYard.NONE);
    }

    int lotOf(String fur, int grams) {
        return type(fur).lot(grams);
    }

    /** That many cycles, each on a day of its own. */
    void cycles(int cone, int hand, int howMany) {
        for (int i = 0; i < howMany; i++) {
            cycle(cone, hand);
            pass(1);
        }
    }

    void hasWidths(int cone, int... want) {
        for (int band = 0; band < want.length; band++) {
            Check.due("width of band " + band, about(cone, band, 0), want[band]);
            Check.due("width anew of band " + band, widthAnew(cone, band), want[band]);
        }
    }

    /** A yard with a lot of 5000 grams, a cone of it, and a hand that has made so many cycles, each on its day. */
    static Yard withCone(String fur, int grams, int taper, int cycles) {
        Yard yard = new Yard();
        yard.lotOf(fur, 5000);
        yard.cone(0, grams, taper);
        yard.hand();
        yard.cycles(0, 0, cycles);
        return yard;
    }
}
