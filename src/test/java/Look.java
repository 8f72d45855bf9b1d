/**
 * A look at all that a yard tells and at all that it would do next. It uses the yard up, so it is made on twins.
 * What word is typed shows only in the call that takes it, so there is one look for each such call.
 */
enum Look {
    LETTERS(yard -> yard.told(y -> y.letter('q')), Look::addDraws),
    FUR(yard -> yard.told(y -> y.lot(7)), Look::addCyclesOfFirst),
    FEATHER(Look::trims, Look::addCyclesOfLast),
    KIND(yard -> yard.told(y -> y.count(19)), Look::addDraws);

    private interface Taking {
        String of(Yard yard);
    }

    private interface Felting {
        void add(StringBuilder all, Yard yard, int cones);
    }

    private static final int MOST_LOTS = 10;
    private static final int MOST_CONES = 12;
    private static final int MOST_HANDS = 6;
    private static final int MOST_BLOCKS = 8;

    private final Taking taking;
    private final Felting felting;

    Look(Taking taking, Felting felting) {
        this.taking = taking;
        this.felting = felting;
    }

    String at(Yard yard) {
        StringBuilder all = new StringBuilder(taking.of(yard));
        yard.told(y -> y.count(1));
        int cones = addWhatIs(all, yard);
        felting.add(all, yard, cones);
        addWhatIsDoneNext(all, yard);
        return all.toString();
    }

    private static String trims(Yard yard) {
        StringBuilder all = new StringBuilder();
        for (int cone = 0; cone < MOST_CONES; cone++) {
            int number = cone;
            add(all, yard, y -> y.trim(number) ? 1 : 0);
        }
        return all.toString();
    }

    private static String add(StringBuilder all, Yard yard, Yard.Call call) {
        String told = yard.told(call);
        all.append(' ').append(told);
        return told;
    }

    private static int addWhatIs(StringBuilder all, Yard yard) {
        for (int lot = 0; lot < MOST_LOTS; lot++) {
            int number = lot;
            add(all, yard, y -> y.grams(number));
        }
        for (int hand = 0; hand < MOST_HANDS; hand++) {
            int number = hand;
            add(all, yard, y -> y.air(number, true));
            add(all, yard, y -> y.air(number, false));
        }
        int cones = 0;
        while (cones < MOST_CONES && addCone(all, yard, cones)) {
            cones++;
        }
        return cones;
    }

    private static boolean addCone(StringBuilder all, Yard yard, int cone) {
        if (add(all, yard, y -> y.fits(cone) ? 1 : 0).startsWith("Index")) {
            return false;
        }
        add(all, yard, y -> y.about(cone, 0, 1));
        add(all, yard, y -> y.widthAnew(cone, 5));
        for (int band = 0; band < 6; band++) {
            int number = band;
            add(all, yard, y -> y.about(cone, number, 0));
            add(all, yard, y -> y.about(cone, number, 2));
        }
        return true;
    }

    private static void addWhatIsDoneNext(StringBuilder all, Yard yard) {
        add(all, yard, y -> y.cone(0, 10, 0));
        add(all, yard, y -> y.hand());
        yard.told(y -> y.letter('h'));
        yard.told(y -> y.letter('a'));
        yard.told(y -> y.letter('r'));
        yard.told(y -> y.letter('e'));
        add(all, yard, y -> y.lot(1));
        for (int radius = 0; radius < 8; radius++) {
            int number = radius;
            add(all, yard, y -> y.measure(number, 0));
        }
        add(all, yard, y -> y.block(300, 1));
        for (int day = 0; day < 10; day++) {
            add(all, yard, y -> y.pass(1));
        }
        all.append(trims(yard));
    }

    private static void addDraws(StringBuilder all, Yard yard, int cones) {
        int cone = Math.max(0, cones - 1);
        for (int block = 0; block < MOST_BLOCKS; block++) {
            int number = block;
            add(all, yard, y -> y.draw(cone, number));
            add(all, yard, y -> y.about(cone, 5, 0));
        }
    }

    private static void addCyclesOfFirst(StringBuilder all, Yard yard, int cones) {
        addCycles(all, yard, 0);
    }

    private static void addCyclesOfLast(StringBuilder all, Yard yard, int cones) {
        addCycles(all, yard, Math.max(0, cones - 1));
    }

    private static void addCycles(StringBuilder all, Yard yard, int cone) {
        for (int made = 0; made <= 12; made++) {
            add(all, yard, y -> y.cycle(cone, 0));
            yard.told(y -> y.pass(1));
        }
    }
}
