import java.util.ArrayList;
import java.util.List;
import java.util.Random;
import java.util.regex.Matcher;
import java.util.regex.Pattern;

/**
 * Promises 8, 9 and 11 over made-up texts: each token is a letter, and a pattern over the letters
 * tells how far a text can go on. Always the same texts, by the seed.
 */
public final class TextTest {
    private static final Check CHECK = new Check("TextTest");
    private static final Random RANDOM = new Random(8);
    private static final Pattern TOKEN = Pattern.compile("[a-z]+|[0-9]+|[^a-z0-9 \\n]", Pattern.DOTALL);
    private static final Pattern PLAN = Pattern.compile("(z\\{(([pu]n+;)|([hces]n;))*\\}){0,8}");
    private static final String[] PIECES = {
        "zone", "{", "}", ";", "plots", "use", "height", "cover", "edge", "shade", " ", "\n", "0", "1", "12", "999", "1000",
        "zones", "plot", "-", "\u00ff", "Z",
    };

    public static void main(String[] args) {
        for (int i = 0; i < 20000; i++) {
            compare(spoilt(text(), i % 4));
        }
        CHECK.finish();
    }

    private static void compare(String text) {
        PlanningBench bench = new PlanningBench();
        for (int i = 0; i < 12; i++) {
            Bench.square(bench, 5 * i, 0, 5);
        }
        int want = fault(text);
        int plan = Bench.adopt(bench, text, 0);
        CHECK.due("adopt of '" + text + "'", plan, want == Bench.NONE ? 0 : Bench.NONE);
        CHECK.due("fault of '" + text + "'", bench.fault(), want);
        if (want == Bench.NONE) {
            compareZones(bench, text);
        }
    }

    private static int fault(String text) {
        StringBuilder letters = new StringBuilder();
        Matcher tokens = TOKEN.matcher(text);
        while (tokens.find()) {
            letters.append(letter(tokens.group()));
            Matcher sofar = PLAN.matcher(letters);
            if (!sofar.matches() && !sofar.hitEnd()) {
                return tokens.start();
            }
        }
        return PLAN.matcher(letters).matches() ? Bench.NONE : text.length();
    }

    private static char letter(String token) {
        switch (token) {
            case "zone":
            case "plots":
            case "use":
            case "height":
            case "cover":
            case "edge":
            case "shade":
            case "{":
            case "}":
            case ";":
                return token.charAt(0);
            default:
                return token.matches("[0-9]{1,3}") ? 'n' : '?';
        }
    }

    private static void compareZones(PlanningBench bench, String text) {
        List<String> zones = new ArrayList<>();
        for (String zone : text.split("}")) {
            if (zone.contains("{")) {
                zones.add(zone.substring(zone.indexOf('{') + 1));
            }
        }
        String[] words = {"height", "cover", "edge", "shade"};
        for (int plot = 0; plot < 12; plot++) {
            int number = firstNaming(zones, plot);
            CHECK.due("zone of " + plot + " in '" + text + "'", bench.zone(0, plot, 0), number);
            for (int i = 0; i < words.length; i++) {
                List<Integer> told = number == Bench.NONE ? List.of() : latest(zones.get(number), words[i]);
                CHECK.due(words[i] + " of " + plot + " in '" + text + "'", bench.zone(0, plot, 1 + i), told.isEmpty() ? Bench.NONE : told.get(0));
            }
            for (int use = 0; use <= 7; use++) {
                int want = number == Bench.NONE ? Bench.NONE : latest(zones.get(number), "use").contains(use) ? 1 : 0;
                CHECK.due("use " + use + " of " + plot + " in '" + text + "'", bench.zone(0, plot, 10 + use), want);
            }
        }
    }

    private static int firstNaming(List<String> zones, int plot) {
        for (int i = 0; i < zones.size(); i++) {
            if (latest(zones.get(i), "plots").contains(plot)) {
                return i;
            }
        }
        return Bench.NONE;
    }

    private static List<Integer> latest(String zone, String word) {
        List<Integer> numbers = new ArrayList<>();
        int place = zone.lastIndexOf(word);
        if (place < 0) {
            return numbers;
        }
        Matcher digits = Pattern.compile("[0-9]+").matcher(zone.substring(place, zone.indexOf(';', place)));
        while (digits.find()) {
            numbers.add(Integer.parseInt(digits.group()));
        }
        return numbers;
    }

    private static String text() {
        StringBuilder text = new StringBuilder(blanks());
        int zones = RANDOM.nextInt(10);
        for (int i = 0; i < zones && text.length() < 400; i++) {
            text.append("zone").append(blanks()).append('{').append(blanks());
            int items = RANDOM.nextInt(5);
            for (int j = 0; j < items; j++) {
                addItem(text);
            }
            text.append('}').append(blanks());
        }
        return text.toString();
    }

    private static void addItem(StringBuilder text) {
        String word = PIECES[4 + RANDOM.nextInt(6)];
        int numbers = word.equals("plots") || word.equals("use") ? 1 + RANDOM.nextInt(4) : 1;
        text.append(word);
        for (int k = 0; k < numbers; k++) {
            text.append(k == 0 ? blanks() : " ").append(RANDOM.nextInt(RANDOM.nextInt(5) == 0 ? 1000 : 14));
        }
        text.append(blanks()).append(';').append(blanks());
    }

    private static String blanks() {
        return "  \n \n".substring(0, RANDOM.nextInt(3));
    }

    private static String spoilt(String text, int times) {
        StringBuilder spoilt = new StringBuilder(text);
        for (int i = 0; i < times; i++) {
            int place = RANDOM.nextInt(spoilt.length() + 1);
            switch (RANDOM.nextInt(4)) {
                case 0:
                    spoilt.setLength(place);
                    break;
                case 1:
                    spoilt.delete(place, Math.min(spoilt.length(), place + 1));
                    break;
                case 2:
                    spoilt.insert(place, PIECES[RANDOM.nextInt(PIECES.length)]);
                    break;
                default:
                    spoilt.insert(place, (char) RANDOM.nextInt(256));
                    break;
            }
        }
        return spoilt.length() > 600 ? spoilt.substring(0, 600) : spoilt.toString();
    }
}
