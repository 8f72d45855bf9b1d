/** What the tests share: due answers, due exceptions, typing a word, and all that a yard shows. */
final class Check {
    static final Class<? extends Exception> INDEX = IndexOutOfBoundsException.class;
    static final Class<? extends Exception> ARGUMENT = IllegalArgumentException.class;
    static final Class<? extends Exception> STATE = IllegalStateException.class;

    private static int wrong = 0;
    private static int made = 0;

    private Check() {
    }

    interface Call {
        void make();
    }

    interface Question {
        long ask();
    }

    static void due(String call, long got, long want) {
        made++;
        if (got != want) {
            wrong++;
            System.out.println(call + " answered " + got + ", due is " + want);
        }
    }

    static void due(String call, boolean got, boolean want) {
        due(call, got ? 1 : 0, want ? 1 : 0);
    }

    /** The call throws exactly that exception, and what the yard shows is the same after it. */
    static void throwing(HatbandYard yard, String call, Class<? extends Exception> want, Call made) {
        String before = shown(yard);
        Class<?> got = null;
        try {
            made.make();
        } catch (RuntimeException e) {
            got = e.getClass();
        }
        Check.made++;
        if (got != want) {
            wrong++;
            System.out.println(call + " threw " + got + ", due is " + want);
        }
        if (!before.equals(shown(yard))) {
            wrong++;
            System.out.println(call + " changed what the yard shows");
        }
    }

    /** Types a word, of which nothing is typed yet. */
    static HatbandYard type(HatbandYard yard, String word) {
        for (int i = 0; i < word.length(); i++) {
            due("letter " + i + " of " + word, yard.letter(word.charAt(i)), i + 1);
        }
        return yard;
    }

    /** Nothing is typed: the next letter is the first; lot takes it away again. */
    static void nothingTyped(HatbandYard yard) {
        due("first letter where nothing is typed", yard.letter('z'), 1);
        due("count of no kind", yard.count(1), HatbandYard.NONE);
    }

    static int lotOf(HatbandYard yard, String fur, int grams) {
        return type(yard, fur).lot(grams);
    }

    static void cycles(HatbandYard yard, int cone, int hand, int howMany) {
        for (int i = 0; i < howMany; i++) {
            yard.cycle(cone, hand);
            yard.pass(1);
        }
    }

    static void widths(HatbandYard yard, int cone, int... want) {
        for (int band = 0; band < want.length; band++) {
            due("width of band " + band, yard.about(cone, band, 0), want[band]);
            due("width anew of band " + band, yard.widthAnew(cone, band), want[band]);
        }
    }

    /** All answers of the questions that change nothing, for each number that there may be. */
    static String shown(HatbandYard yard) {
        StringBuilder all = new StringBuilder();
        for (int lot = 0; lot < 11; lot++) {
            int number = lot;
            add(all, () -> yard.grams(number));
        }
        for (int hand = 0; hand < 7; hand++) {
            int number = hand;
            add(all, () -> yard.air(number, true));
            add(all, () -> yard.air(number, false));
        }
        for (int land = 0; land < 4; land++) {
            int number = land;
            add(all, () -> yard.size(number));
        }
        for (int cone = 0; cone < 13; cone++) {
            addCone(all, yard, cone);
        }
        return all.toString();
    }

    private static void addCone(StringBuilder all, HatbandYard yard, int cone) {
        add(all, () -> yard.fits(cone) ? 1 : 0);
        add(all, () -> yard.brim(cone, 77));
        for (int band = 0; band < 6; band++) {
            int number = band;
            for (int what = 0; what < 4; what++) {
                int asked = what;
                add(all, () -> yard.about(cone, number, asked));
            }
            add(all, () -> yard.widthAnew(cone, number));
        }
    }

    private static void add(StringBuilder all, Question question) {
        try {
            all.append(question.ask()).append(' ');
        } catch (IndexOutOfBoundsException e) {
            all.append("none ");
        }
    }

    static void end(String test) {
        System.out.println(test + ": " + made + " checks, " + wrong + " wrong");
        if (wrong > 0) {
            System.exit(1);
        }
    }
}
