import java.util.ArrayList;
import java.util.Arrays;
import java.util.List;

/**
 * Long runs of calls, drawn from a fixed sequence of numbers, each compared with a second, plainer writing
 * of the document: its answers, its exceptions, and that nothing but the document's exceptions is thrown.
 */
final class ModelTest {
    private static final int RUNS = 1500;
    private static final int CALLS = 512;
    private static final String[] WORDS = {"rabbit", "wool", "beaver", "hare", "ostrich", "egret", "eagle", "flat",
        "cone", "dome", "brim", "hat", "w"};
    private static final int[] EXTREMES = {Integer.MIN_VALUE, Integer.MIN_VALUE + 1, -1000, -1, 0, 1, 12, 1000,
        Integer.MAX_VALUE - 1, Integer.MAX_VALUE};
    private static final int[] TOLD = new int[4];

    private static long seed = 20261119L;

    private interface Question {
        long ask();
    }

    public static void main(String[] args) {
        for (int run = 0; run < RUNS; run++) {
            run(run);
        }
        Check.due("draws that succeed were reached", TOLD[0] > 100, true);
        Check.due("draws that tell a hole were reached", TOLD[1] > 100, true);
        Check.due("draws that tear were reached", TOLD[2] > 100, true);
        Check.due("draws that are too wide were reached", TOLD[3] > 100, true);
        Check.end("ModelTest");
    }

    private static int below(int bound) {
        seed = seed * 6364136223846793005L + 1442695040888963407L;
        return (int) ((seed >>> 33) % bound);
    }

    private static int within(int least, int most) {
        int kind = below(40);
        if (kind == 0) {
            return EXTREMES[below(EXTREMES.length)];
        }
        if (kind == 1) {
            return below(2) == 0 ? least - 1 : most + 1;
        }
        if (kind == 2) {
            return below(2) == 0 ? least : most;
        }
        return least + below(most - least + 1);
    }

    private static int one(int howMany) {
        return below(25) == 0 ? within(0, 12) : below(Math.max(1, howMany));
    }

    private static void run(int run) {
        HatbandYard yard = new HatbandYard();
        Model model = new Model();
        int tendency = below(4);
        for (int call = 0; call < CALLS; call++) {
            if (model.typed.isEmpty() && below(3) == 0) {
                call += type(yard, model, WORDS[below(WORDS.length)], CALLS - 1 - call);
            }
            int method = method(tendency, call);
            int[] arguments = arguments(model, method);
            long want = asked(() -> answer(model, method, arguments));
            long got = asked(() -> answer(yard, method, arguments));
            Check.due("run " + run + ", call " + call + ", method " + method + " of " + Arrays.toString(arguments),
                got, want);
            if (method == 6 && want >= 0 && want <= 3) {
                TOLD[(int) want]++;
            }
        }
    }

    /** Some runs have many cycles, some many draws; some cycle first and make and draw over blocks then. */
    private static int method(int tendency, int call) {
        if (tendency == 3 && call < CALLS * 2 / 3) {
            int[] felting = {1, 2, 3, 4, 4, 4, 4, 8, 8, 8};
            return felting[below(felting.length)];
        }
        if (tendency == 0 || below(2) == 0) {
            return below(20);
        }
        return tendency == 1 ? 4 : tendency == 2 ? 6 : below(3) == 0 ? 5 : 6;
    }

    private static int type(HatbandYard yard, Model model, String word, int callsLeft) {
        int letters = Math.min(callsLeft, word.length());
        for (int i = 0; i < letters; i++) {
            char letter = word.charAt(i);
            Check.due("letter", asked(() -> yard.letter(letter)), asked(() -> model.letter(letter)));
        }
        return letters;
    }

    private static long asked(Question question) {
        try {
            return question.ask();
        } catch (RuntimeException e) {
            return Long.MIN_VALUE + e.getClass().getName().hashCode();
        }
    }

    private static int[] arguments(Model model, int method) {
        int cone = one(model.cones.size());
        switch (method) {
            case 0: return new int[] {below(30) == 0 ? below(65536) : 'a' + below(26)};
            case 1: return new int[] {within(1, 5000)};
            case 2: return new int[] {one(model.lots.size()), within(below(3) == 0 ? 10 : 130, 500), within(0, 5)};
            case 4: return new int[] {cone, one(model.hands.size())};
            case 5: return sizeAndDepth(model);
            case 6: return new int[] {cone, one(model.blocks.size())};
            case 7: return new int[] {cone};
            case 8: return new int[] {below(3) == 0 ? within(1, 30) : 1};
            case 9: return new int[] {cone, within(0, 5), within(0, 3)};
            case 10: return new int[] {cone, within(0, 5)};
            case 11: return new int[] {cone, within(10, 150)};
            case 12: case 13: return new int[] {within(1, 100)};
            case 14: return new int[] {below(2) == 0 ? within(1, 2000) : within(1, 60)};
            case 15: return new int[] {within(0, 7), below(2) == 0 ? within(0, 200) : within(60, 120)};
            case 16: return new int[] {cone};
            case 17: return new int[] {within(0, 3)};
            case 18: return new int[] {one(model.hands.size()), below(2)};
            case 19: return new int[] {one(model.lots.size())};
            default: return new int[0];
        }
    }

    /** Often a block that some cone is near to bear. */
    private static int[] sizeAndDepth(Model model) {
        if (model.cones.isEmpty() || below(4) == 0) {
            return new int[] {within(300, 700), within(1, 6)};
        }
        int edge = model.cones.get(below(model.cones.size())).widths[0];
        return new int[] {edge - below(Math.max(1, edge / 10)), below(3) == 0 ? within(1, 6) : 1};
    }

    private static long answer(HatbandYard yard, int method, int[] a) {
        switch (method) {
            case 0: return yard.letter((char) a[0]);
            case 1: return yard.lot(a[0]);
            case 2: return yard.cone(a[0], a[1], a[2]);
            case 3: return yard.hand();
            case 4: return yard.cycle(a[0], a[1]);
            case 5: return yard.block(a[0], a[1]);
            case 6: return yard.draw(a[0], a[1]);
            case 7: return yard.trim(a[0]) ? 1 : 0;
            case 8: return yard.pass(a[0]);
            case 9: return yard.about(a[0], a[1], a[2]);
            case 10: return yard.widthAnew(a[0], a[1]);
            case 11: return yard.brim(a[0], a[1]);
            case 12: return yard.count(a[0]);
            case 13: return yard.countAnew(a[0]);
            case 14: return yard.rows(a[0]);
            case 15: return yard.measure(a[0], a[1]);
            case 16: return yard.fits(a[0]) ? 1 : 0;
            case 17: return yard.size(a[0]);
            case 18: return yard.air(a[0], a[1] == 1);
            default: return yard.grams(a[0]);
        }
    }

    private static long answer(Model model, int method, int[] a) {
        switch (method) {
            case 0: return model.letter((char) a[0]);
            case 1: return model.lot(a[0]);
            case 2: return model.cone(a[0], a[1], a[2]);
            case 3: return model.hand();
            case 4: return model.cycle(a[0], a[1]);
            case 5: return model.block(a[0], a[1]);
            case 6: return model.draw(a[0], a[1]);
            case 7: return model.trim(a[0]);
            case 8: return model.pass(a[0]);
            case 9: return model.about(a[0], a[1], a[2]);
            case 10: return model.about(a[0], a[1], 0);
            case 11: return model.brim(a[0], a[1]);
            case 12: case 13: return model.count(a[0]);
            case 14: return model.rows(a[0]);
            case 15: return model.measure(a[0], a[1]);
            case 16: return model.fits(a[0]);
            case 17: return model.size(a[0]);
            case 18: return model.air(a[0], a[1] == 1);
            default: return model.grams(a[0]);
        }
    }

    /** The document once more, in lists and by names of furs, without a thought of LANGUAGE.md. */
    private static final class Model {
        private static final List<String> FURS = List.of("rabbit", "wool", "beaver", "hare");
        private static final int[][] OF_FUR = {{8, 6, 20, 8}, {10, 9, 15, 2}, {5, 5, 35, 5}, {7, 6, 25, 12}};

        private final List<int[]> lots = new ArrayList<>();
        private final List<Felt> cones = new ArrayList<>();
        private final List<int[]> hands = new ArrayList<>();
        private final List<int[]> blocks = new ArrayList<>();
        private final int[] radii = new int[8];
        private String typed = "";
        private int day = 0;

        private static final class Felt {
            private int[] number;
            private final int[] widths = new int[6];
            private final int[] heights = new int[6];
            private final int[] grams = new int[6];
            private int cycles = 0;
            private boolean isDrawn = false;
            private boolean isTrimmed = false;

            private int thick(int band) {
                return (int) (grams[band] * 100000L / ((long) widths[band] * heights[band]));
            }
        }

        private static <T> T of(List<T> all, int number) {
            index(number >= 0 && number < all.size());
            return all.get(number);
        }

        private static void index(boolean isRight) {
            if (!isRight) {
                throw new IndexOutOfBoundsException();
            }
        }

        private static void argument(boolean isRight) {
            if (!isRight) {
                throw new IllegalArgumentException();
            }
        }

        private static void state(boolean isRight) {
            if (!isRight) {
                throw new IllegalStateException();
            }
        }

        private String taken() {
            String word = typed;
            typed = "";
            return word;
        }

        private int letter(char letter) {
            argument(letter >= 'a' && letter <= 'z');
            state(typed.length() < 7);
            typed = typed + letter;
            return typed.length();
        }

        private int lot(int grams) {
            argument(grams >= 1 && grams <= 5000);
            state(lots.size() < 10);
            int fur = FURS.indexOf(taken());
            if (fur < 0) {
                return -1;
            }
            lots.add(new int[] {fur, grams});
            return lots.size() - 1;
        }

        private int cone(int lot, int grams, int taper) {
            int[] from = of(lots, lot);
            argument(grams >= 10 && grams <= 500 && taper >= 0 && taper <= 5);
            state(cones.size() < 12 && from[1] >= grams);
            from[1] -= grams;
            Felt felt = new Felt();
            felt.number = OF_FUR[from[0]];
            int laid = 0;
            for (int band = 0; band < 6; band++) {
                felt.widths[band] = 1200 - 150 * band;
                felt.heights[band] = 60;
                felt.grams[band] = grams * (10 + taper * band) / (60 + 15 * taper);
                laid += felt.grams[band];
            }
            felt.grams[0] += grams - laid;
            cones.add(felt);
            return cones.size() - 1;
        }

        private int hand() {
            state(hands.size() < 6);
            hands.add(new int[2]);
            return hands.size() - 1;
        }

        private int cycle(int cone, int hand) {
            Felt felt = of(cones, cone);
            int[] air = of(hands, hand);
            state(air[0] + felt.number[3] <= 30 && !felt.isDrawn && felt.cycles < 12);
            air[0] += felt.number[3];
            air[1] += felt.number[3];
            felt.cycles++;
            for (int band = 0; band < 6; band++) {
                felt.widths[band] = felt.widths[band] * (100 - felt.number[0]) / 100;
                felt.heights[band] = felt.heights[band] * (100 - felt.number[1]) / 100;
            }
            return felt.widths[0];
        }

        private int block(int size, int depth) {
            argument(size >= 300 && size <= 700 && depth >= 1 && depth <= 6);
            state(blocks.size() < 8);
            int[] widths = new int[6];
            for (int band = 0; band < 6; band++) {
                widths[band] = band < depth ? size : Math.max(50, widths[band - 1] - size / 10);
            }
            blocks.add(widths);
            return blocks.size() - 1;
        }

        private int draw(int cone, int block) {
            Felt felt = of(cones, cone);
            int[] over = of(blocks, block);
            boolean isHole = false;
            boolean isTorn = false;
            boolean isTooWide = false;
            for (int band = 0; band < 6; band++) {
                int width = felt.widths[band];
                isHole |= felt.thick(band) < 40;
                isTorn |= over[band] > width && 100 * (over[band] - width) / width > felt.number[2];
                isTooWide |= over[band] < width && width * (100 - felt.number[0]) / 100 > over[band];
            }
            if (isHole || isTorn || isTooWide) {
                return isHole ? 1 : isTorn ? 2 : 3;
            }
            System.arraycopy(over, 0, felt.widths, 0, 6);
            felt.isDrawn = true;
            return 0;
        }

        private int trim(int cone) {
            Felt felt = of(cones, cone);
            state(!felt.isTrimmed);
            String word = taken();
            int year = day / 10;
            felt.isTrimmed = word.equals("ostrich") || word.equals("egret") && year < 5 || word.equals("eagle") && year < 2;
            return felt.isTrimmed ? 1 : 0;
        }

        private int pass(int days) {
            argument(days >= 1 && days <= 30);
            day += days;
            for (int[] air : hands) {
                air[0] = 0;
            }
            return day / 10;
        }

        private int about(int cone, int band, int what) {
            Felt felt = of(cones, cone);
            index(band >= 0 && band < 6);
            argument(what >= 0 && what < 4);
            return what == 0 ? felt.widths[band] : what == 1 ? felt.heights[band]
                : what == 2 ? felt.grams[band] : felt.thick(band);
        }

        private int brim(int cone, int width) {
            Felt felt = of(cones, cone);
            argument(width >= 10 && width <= 150);
            float pull = 2 * width;
            pull *= 3.14159f;
            pull /= felt.widths[0];
            return Float.floatToIntBits(pull);
        }

        private static int inRow(String kind, int row) {
            int inRow = 6;
            for (int at = 2; at <= row; at++) {
                inRow += kind.equals("flat") ? 6 : kind.equals("cone") ? 4 : kind.equals("brim") ? 9
                    : at < 18 ? 6 - at / 3 : 0;
            }
            return inRow;
        }

        private int count(int rows) {
            argument(rows >= 1 && rows <= 100);
            String kind = taken();
            if (!List.of("flat", "cone", "dome", "brim").contains(kind)) {
                return -1;
            }
            int all = 0;
            for (int row = 1; row <= rows; row++) {
                all += inRow(kind, row);
            }
            return all;
        }

        private int rows(int stitches) {
            argument(stitches >= 1 && stitches <= 2000);
            String kind = taken();
            if (!List.of("flat", "cone", "dome", "brim").contains(kind)) {
                return -1;
            }
            for (int row = 1; row <= 500; row++) {
                if (inRow(kind, row) >= stitches) {
                    return row;
                }
            }
            return -1;
        }

        private int around() {
            int sum = 0;
            for (int radius : radii) {
                sum += radius;
            }
            return sum * 785 / 1000;
        }

        private int measure(int radius, int length) {
            index(radius >= 0 && radius < 8);
            argument(length >= 0 && length <= 200);
            radii[radius] = length;
            return around();
        }

        private int fits(int cone) {
            int ease = of(cones, cone).widths[0] - around();
            return ease >= 0 && ease <= 12 ? 1 : 0;
        }

        private int size(int land) {
            index(land >= 0 && land < 4);
            float[] sizes = {around() / 10.0f, around() / 79.796f, around() / 79.796f + 0.125f, around() / 6.77f};
            return Float.floatToIntBits(sizes[land]);
        }

        private int air(int hand, boolean isToday) {
            return of(hands, hand)[isToday ? 0 : 1];
        }

        private int grams(int lot) {
            return of(lots, lot)[1];
        }
    }
}
