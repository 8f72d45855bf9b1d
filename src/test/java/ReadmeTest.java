import java.io.IOException;
import java.nio.file.Files;
import java.nio.file.Path;
import java.util.ArrayList;
import java.util.List;

/** The example of README.md: each answer that stands there is the one that is given, and each call is one of these. */
final class ReadmeTest {
    private static final List<String> SHOWN = new ArrayList<>();

    public static void main(String[] args) throws IOException {
        Yard yard = new Yard();
        feltACone(yard);
        drawIt(yard);
        fitAndTrimIt(yard);
        sewStraw(yard);
        Check.same("the example", SHOWN.toString(), shownByReadme().toString());
        Check.end("ReadmeTest");
    }

    private static void shows(String call, Object answer) {
        SHOWN.add(call + " // " + answer + "\n");
    }

    private static List<String> shownByReadme() throws IOException {
        List<String> shown = new ArrayList<>();
        for (String line : Files.readAllLines(Path.of("README.md"))) {
            if (line.startsWith("    ") && line.contains("//")) {
                shown.add(line.strip().replaceAll(" +//", " //") + "\n");
            }
        }
        return shown;
    }

    private static void feltACone(Yard yard) {
        shows("int lot = yard.lot(600);", yard.lotOf("beaver", 600));
        shows("int cone = yard.cone(lot, 300, 2);", yard.cone(0, 300, 2));
        shows("yard.grams(lot);", yard.grams(0));
        shows("int hand = yard.hand();", yard.hand());
        for (int made = 0; made < 6; made++) {
            yard.cycle(0, 0);
        }
        shows("yard.air(hand, true);", yard.air(0, true));
        shows("yard.cycle(cone, hand);", yard.told(y -> y.cycle(0, 0)));
        shows("yard.pass(1);", yard.pass(1));
        for (int made = 0; made < 4; made++) {
            yard.cycle(0, 0);
        }
        shows("yard.air(hand, false);", yard.air(0, false));
    }

    private static void drawIt(Yard yard) {
        shows("yard.about(cone, 0, 0);", yard.about(0, 0, 0));
        for (int what = 0; what <= 3; what++) {
            shows("yard.about(cone, 5, " + what + ");", yard.about(0, 5, what));
        }
        shows("int deep = yard.block(700, 6);", yard.block(700, 6));
        shows("int shallow = yard.block(700, 1);", yard.block(700, 1));
        shows("yard.draw(cone, deep);", yard.draw(0, 0));
        shows("yard.draw(cone, shallow);", yard.draw(0, 1));
        shows("yard.widthAnew(cone, 5);", yard.widthAnew(0, 5));
    }

    private static void fitAndTrimIt(Yard yard) {
        shows("Float.intBitsToFloat(yard.brim(cone, 60));", Float.intBitsToFloat(yard.brim(0, 60)));
        for (int radius = 0; radius < 7; radius++) {
            yard.measure(radius, 110);
        }
        shows("yard.measure(7, 110);", yard.measure(7, 110));
        shows("yard.fits(cone);", yard.fits(0));
        shows("Float.intBitsToFloat(yard.size(1));", Float.intBitsToFloat(yard.size(1)));
        shows("yard.trim(cone);", yard.type("egret").trim(0));
    }

    private static void sewStraw(Yard yard) {
        shows("yard.count(20);", yard.type("dome").count(20));
        shows("yard.countAnew(20);", yard.type("dome").countAnew(20));
        shows("yard.rows(57);", yard.type("dome").rows(57));
        shows("yard.rows(58);", yard.type("dome").rows(58));
    }
}
