import java.math.BigInteger;
import java.util.ArrayList;
import java.util.List;
import java.util.Map;
import java.util.TreeMap;
import java.util.TreeSet;

/**
 * The document written out a second time, in another way, to compare the program with: what
 * happens to an application is kept as events and gone through again for each answer, rules are
 * asked one by one, rectangles are compared cell by cell, rings by exact fractions.
 */
final class Model {
    private static final int NONE = -1;
    private static final String[] WORDS = {"plots", "use", "height", "cover", "edge", "shade"};

    private enum Kind { OBJECTED, DECIDED, APPEALED, BEGUN, DONE, RAZED }

    /** The number is a plot that objects, a reason, or a day since which a thing doesn't stand. */
    private record Event(Kind kind, int day, int number, int weight) {
    }

    private record Asked(int plot, int[] box, int height, int use, int day, List<Event> events) {
    }

    private record Adopted(List<Map<String, TreeSet<Integer>>> zones, int from, int known) {
    }

    private record Held(int plot, int person, int since, int known) {
    }

    private record Token(int place, String text) {
    }

    private final List<int[]> told = new ArrayList<>();
    private final List<List<int[]>> rings = new ArrayList<>();
    private final List<Adopted> plans = new ArrayList<>();
    private final List<Asked> applications = new ArrayList<>();
    private final List<Held> held = new ArrayList<>();
    private final StringBuilder tape = new StringBuilder();
    private int latestFault = NONE;
    private int today = 0;

    boolean day(int d) {
        boolean later = d > today && d <= 9999;
        today = later ? d : today;
        return later;
    }

    int corner(int x, int y) {
        if (told.size() == 8 || x < 0 || x > 63 || y < 0 || y > 63) {
            return NONE;
        }
        told.add(new int[] {x, y});
        return told.size();
    }

    int plot() {
        List<int[]> ring = new ArrayList<>(told);
        told.clear();
        if (rings.size() == 12 || ring.size() < 3 || !isRound(ring) || rings.stream().anyMatch(r -> shareInside(r, ring))) {
            return NONE;
        }
        rings.add(ring);
        return rings.size() - 1;
    }

    int ring(int plot, int what) {
        if (!isPlot(plot)) {
            return NONE;
        }
        List<int[]> ring = rings.get(plot);
        List<Integer> answers = new ArrayList<>(List.of(ring.size(), twiceArea(ring)));
        ring.forEach(c -> answers.addAll(List.of(c[0], c[1])));
        return what >= 0 && what < answers.size() ? answers.get(what) : NONE;
    }

    boolean near(int a, int b, int distance) {
        return isPlot(a) && isPlot(b) && a != b && distance >= 0 && distance <= 100 && apart(rings.get(a), rings.get(b), distance) <= 0;
    }

    int feed(int a, int b, int c, int d, int e) {
        if (tape.length() + 20 > 600) {
            return NONE;
        }
        for (int word : new int[] {a, b, c, d, e}) {
            for (byte one : BigInteger.valueOf(word & 0xFFFFFFFFL | 1L << 32).toByteArray()) {
                tape.append((char) (one & 255));
            }
            tape.deleteCharAt(tape.length() - 5);
        }
        return tape.length();
    }

    int adopt(int n, int from) {
        if (n < 0 || n > tape.length() || !isDay(from)) {
            return -2;
        }
        if (plans.size() == 20) {
            return -3;
        }
        List<Token> tokens = tokens(tape.substring(0, n));
        tape.setLength(0);
        latestFault = faultOf(tokens, n);
        if (latestFault == NONE) {
            plans.add(new Adopted(zonesOf(tokens), from, today));
        }
        return latestFault == NONE ? plans.size() - 1 : NONE;
    }

    int fault() {
        return latestFault;
    }

    int plan(int day, int known) {
        if (!isDay(day) || !isDay(known)) {
            return NONE;
        }
        TreeMap<Integer, Integer> byFrom = new TreeMap<>();
        for (int i = 0; i < plans.size(); i++) {
            if (plans.get(i).known <= known) {
                byFrom.put(plans.get(i).from, i);
            }
        }
        return byFrom.floorKey(day) == null ? NONE : byFrom.floorEntry(day).getValue();
    }

    int zone(int plan, int plot, int what) {
        if (plan < 0 || plan >= plans.size() || !isPlot(plot)) {
            return NONE;
        }
        int number = zoneOf(plan, plot);
        if (number == NONE || what == 0) {
            return number;
        }
        Map<String, TreeSet<Integer>> zone = plans.get(plan).zones.get(number);
        if (what >= 10 && what <= 17) {
            return zone.containsKey("use") && zone.get("use").contains(what - 10) ? 1 : 0;
        }
        return what >= 1 && what <= 4 && zone.containsKey(WORDS[what + 1]) ? zone.get(WORDS[what + 1]).first() : NONE;
    }

    int judge(int plot, int x0, int y0, int x1, int y1, int height, int use, int day, int known) {
        Asked design = new Asked(plot, new int[] {x0, y0, x1, y1}, height, use, 0, List.of());
        return isDesign(design) && isDay(day) && isDay(known) ? firstRule(design, day, known) : NONE;
    }

    int apply(int plot, int x0, int y0, int x1, int y1, int height, int use) {
        Asked asked = new Asked(plot, new int[] {x0, y0, x1, y1}, height, use, today, new ArrayList<>());
        if (!isDesign(asked) || applications.size() == 40) {
            return NONE;
        }
        applications.add(asked);
        return applications.size() - 1;
    }

    int object(int application, int plot) {
        if (how(application) != 0 || !isPlot(plot) || applications.get(application).plot == plot) {
            return -4;
        }
        Asked asked = applications.get(application);
        if (!near(plot, asked.plot, 20)) {
            return -2;
        }
        if (today - asked.day > 30) {
            return -1;
        }
        if (asked.events.stream().anyMatch(e -> e.number == plot)) {
            return -3;
        }
        int weight = near(plot, asked.plot, 0) ? 2 : 1;
        asked.events.add(new Event(Kind.OBJECTED, today, plot, weight));
        return weight;
    }

    int decide(int application) {
        if (how(application) != 0 || today - applications.get(application).day < 31) {
            return NONE;
        }
        Asked asked = applications.get(application);
        int rule = firstRule(asked, asked.day, today);
        int reason = rule == 0 && told(application, 4) >= 6 ? 9 : rule;
        asked.events.add(new Event(Kind.DECIDED, today, reason, 0));
        return reason;
    }

    int build(int application) {
        int how = how(application);
        if (how != 1 && how != 3) {
            return NONE;
        }
        applications.get(application).events.add(new Event(how == 1 ? Kind.BEGUN : Kind.DONE, today, 0, 0));
        return how(application);
    }

    int appeal(int application) {
        if (how(application) != 2 || told(application, 8) < today) {
            return NONE;
        }
        Asked asked = applications.get(application);
        int rule = firstRule(asked, asked.day, today);
        asked.events.add(new Event(Kind.APPEALED, today, rule, 0));
        return rule;
    }

    int clash(int application) {
        if (how(application) == NONE) {
            return NONE;
        }
        int met = 0;
        for (int i = 0; i < applications.size(); i++) {
            boolean counts = i != application && stands(i, today, today);
            met += counts && shareCell(applications.get(i).box, applications.get(application).box) ? 1 : 0;
        }
        return met;
    }

    int told(int application, int what) {
        if (how(application) == NONE) {
            return NONE;
        }
        Asked asked = applications.get(application);
        Event decided = latest(asked, Kind.DECIDED);
        Event appealed = latest(asked, Kind.APPEALED);
        boolean won = appealed != null && appealed.number == 0;
        switch (what) {
            case 0:
                return how(application);
            case 1:
                return asked.day;
            case 2:
                return asked.plot;
            case 3:
                return decided == null ? 0 : decided.number;
            case 4:
                return asked.events.stream().mapToInt(Event::weight).sum();
            case 5:
                return dayOf(won ? appealed : decided);
            case 6:
                return dayOf(latest(asked, Kind.BEGUN));
            case 7:
                return dayOf(latest(asked, Kind.DONE));
            case 8:
                return lastDay(application);
            case 9:
                return appealed == null ? 0 : 1;
            default:
                return NONE;
        }
    }

    boolean raze(int application, int since) {
        if (how(application) != 4 || since > today || since < told(application, 7) || latest(applications.get(application), Kind.RAZED) != null) {
            return false;
        }
        applications.get(application).events.add(new Event(Kind.RAZED, today, since, 0));
        return true;
    }

    boolean stands(int application, int day, int known) {
        if (how(application) == NONE || !isDay(day) || !isDay(known)) {
            return false;
        }
        boolean stands = false;
        for (Event e : applications.get(application).events) {
            if (e.kind == Kind.DONE && e.day <= known) {
                stands = day >= e.day;
            }
            if (e.kind == Kind.RAZED && e.day <= known && day >= e.number) {
                stands = false;
            }
        }
        return stands;
    }

    boolean hold(int plot, int person, int since) {
        if (!isPlot(plot) || person < 0 || person > 99 || since < 0 || since > today || held.size() == 100) {
            return false;
        }
        held.add(new Held(plot, person, since, today));
        return true;
    }

    int holder(int plot, int day, int known) {
        if (!isPlot(plot) || !isDay(day) || !isDay(known)) {
            return NONE;
        }
        TreeMap<Integer, Integer> bySince = new TreeMap<>();
        held.stream().filter(h -> h.plot == plot && h.known <= known).forEach(h -> bySince.put(h.since, h.person));
        return bySince.floorKey(day) == null ? NONE : bySince.floorEntry(day).getValue();
    }

    int count(int what) {
        int standing = 0;
        for (int i = 0; i < applications.size(); i++) {
            standing += stands(i, today, today) ? 1 : 0;
        }
        int[] counts = {today, rings.size(), plans.size(), applications.size(), tape.length(), told.size(), standing};
        return what >= 0 && what < counts.length ? counts[what] : NONE;
    }

    // ---- what happened to an application ----

    /** How it is today, by all that happened; NONE: no such application. */
    private int how(int application) {
        if (application < 0 || application >= applications.size()) {
            return NONE;
        }
        int how = 0;
        int ends = 10000 + 400;
        for (Event e : applications.get(application).events) {
            if (e.kind == Kind.DECIDED || e.kind == Kind.APPEALED) {
                how = e.number == 0 ? 1 : 2;
                ends = e.day + 400;
            } else if (e.kind == Kind.BEGUN) {
                how = 3;
                ends = e.day + 300;
            } else if (e.kind == Kind.DONE) {
                how = 4;
            }
        }
        return (how == 1 || how == 3) && today > ends ? 5 : how;
    }

    private int lastDay(int application) {
        Asked asked = applications.get(application);
        switch (how(application)) {
            case 0:
                return asked.day + 30;
            case 1:
                return told(application, 5) + 400;
            case 2:
                return latest(asked, Kind.APPEALED) == null ? told(application, 5) + 60 : NONE;
            case 3:
                return told(application, 6) + 300;
            default:
                return NONE;
        }
    }

    private static Event latest(Asked asked, Kind kind) {
        Event latest = null;
        for (Event e : asked.events) {
            latest = e.kind == kind ? e : latest;
        }
        return latest;
    }

    private static int dayOf(Event event) {
        return event == null ? NONE : event.day;
    }

    // ---- rules ----

    private int firstRule(Asked design, int day, int known) {
        for (int rule = 1; rule <= 8; rule++) {
            if (breaks(rule, design, day, known)) {
                return rule;
            }
        }
        return 0;
    }

    private boolean breaks(int rule, Asked design, int day, int known) {
        int[] box = design.box;
        List<int[]> ring = rings.get(design.plot);
        List<int[]> corners = List.of(new int[] {box[0], box[1]}, new int[] {box[2], box[1]}, new int[] {box[2], box[3]}, new int[] {box[0], box[3]});
        int plan = plan(day, known);
        int height = zone(plan, design.plot, 1);
        int cover = zone(plan, design.plot, 2);
        int edge = zone(plan, design.plot, 3);
        int shade = zone(plan, design.plot, 4);
        switch (rule) {
            case 1:
                return corners.stream().anyMatch(c -> !isInOrOn(ring, c));
            case 2:
                return zone(plan, design.plot, 0) == NONE;
            case 3:
                return zone(plan, design.plot, 10 + design.use) != 1;
            case 4:
                return height != NONE && design.height > height;
            case 5:
                return cover != NONE && 100.0 * builtOn(design, day, known) > cover * (twiceArea(ring) / 2.0);
            case 6:
                return edge != NONE && apart(ring, corners, edge) < 0;
            case 7:
                return standing(day, known).stream().anyMatch(s -> shareCell(s.box, box));
            default:
                int[] dark = {box[0], box[3], box[2], box[3] + (shade == NONE ? 0 : (int) Math.floor(design.height * shade / 10.0))};
                return standing(day, known).stream().anyMatch(s -> s.plot != design.plot && shareCell(s.box, dark));
        }
    }

    private int builtOn(Asked design, int day, int known) {
        int area = cells(design.box);
        for (Asked s : standing(day, known)) {
            area += s.plot == design.plot ? cells(s.box) : 0;
        }
        return area;
    }

    private List<Asked> standing(int day, int known) {
        List<Asked> standing = new ArrayList<>();
        for (int i = 0; i < applications.size(); i++) {
            if (stands(i, day, known)) {
                standing.add(applications.get(i));
            }
        }
        return standing;
    }

    private int zoneOf(int plan, int plot) {
        List<Map<String, TreeSet<Integer>>> zones = plans.get(plan).zones;
        for (int i = 0; i < zones.size(); i++) {
            if (zones.get(i).containsKey("plots") && zones.get(i).get("plots").contains(plot)) {
                return i;
            }
        }
        return NONE;
    }

    // ---- what is as told ----

    private boolean isPlot(int plot) {
        return plot >= 0 && plot < rings.size();
    }

    private static boolean isDay(int day) {
        return day >= 0 && day <= 9999;
    }

    private boolean isDesign(Asked d) {
        boolean inField = true;
        for (int place : d.box) {
            inField &= place >= 0 && place <= 63;
        }
        return isPlot(d.plot) && inField && d.box[0] < d.box[2] && d.box[1] < d.box[3]
            && d.height >= 1 && d.height <= 40 && d.use >= 0 && d.use <= 7;
    }

    // ---- texts ----

    private static List<Token> tokens(String text) {
        List<Token> tokens = new ArrayList<>();
        int place = 0;
        while (place < text.length()) {
            int kind = kind(text.charAt(place));
            int end = place + 1;
            while (kind < 2 && end < text.length() && kind(text.charAt(end)) == kind) {
                end++;
            }
            if (kind != 2) {
                tokens.add(new Token(place, text.substring(place, end)));
            }
            place = end;
        }
        return tokens;
    }

    /** 0 letters, 1 digits, 2 blanks, 3 all others, which stand alone. */
    private static int kind(char c) {
        if (c == ' ' || c == '\n') {
            return 2;
        }
        return c >= 'a' && c <= 'z' ? 0 : c >= '0' && c <= '9' ? 1 : 3;
    }

    /** Goes from state to state, a token at a time, each state named by the tokens it goes on with. */
    private static int faultOf(List<Token> tokens, int length) {
        String state = "zone";
        int zones = 0;
        boolean many = false;
        for (Token t : tokens) {
            boolean isNumber = t.text.matches("[0-9]{1,3}");
            if (state.equals("zone") && t.text.equals("zone") && zones < 8) {
                zones++;
                state = "{";
            } else if (state.equals("{") && t.text.equals("{")) {
                state = "item or }";
            } else if (state.equals("item or }") && t.text.equals("}")) {
                state = "zone";
            } else if (state.equals("item or }") && List.of(WORDS).contains(t.text)) {
                many = t.text.equals("plots") || t.text.equals("use");
                state = "number";
            } else if (isNumber && (state.equals("number") || state.equals("number or ;") && many)) {
                state = "number or ;";
            } else if (state.equals("number or ;") && t.text.equals(";")) {
                state = "item or }";
            } else {
                return t.place;
            }
        }
        return state.equals("zone") ? NONE : length;
    }

    private static List<Map<String, TreeSet<Integer>>> zonesOf(List<Token> tokens) {
        List<Map<String, TreeSet<Integer>>> zones = new ArrayList<>();
        TreeSet<Integer> numbers = new TreeSet<>();
        for (Token t : tokens) {
            if (t.text.equals("zone")) {
                zones.add(new TreeMap<>());
            } else if (List.of(WORDS).contains(t.text)) {
                numbers = new TreeSet<>();
                zones.get(zones.size() - 1).put(t.text, numbers);
            } else if (kind(t.text.charAt(0)) == 1) {
                numbers.add(Integer.valueOf(t.text));
            }
        }
        return zones;
    }

    // ---- rectangles, by cells of one by one ----

    private static int cells(int[] box) {
        int cells = 0;
        for (int x = box[0]; x < box[2]; x++) {
            for (int y = box[1]; y < box[3]; y++) {
                cells++;
            }
        }
        return cells;
    }

    private static boolean shareCell(int[] a, int[] b) {
        for (int x = a[0]; x < a[2]; x++) {
            for (int y = a[1]; y < a[3]; y++) {
                if (isIn(b, x, y)) {
                    return true;
                }
            }
        }
        return false;
    }

    private static boolean isIn(int[] box, int x, int y) {
        return x >= box[0] && x + 1 <= box[2] && y >= box[1] && y + 1 <= box[3];
    }

    // ---- rings ----

    private static int cross(int[] a, int[] b, int[] p) {
        return (b[0] - a[0]) * (p[1] - a[1]) - (b[1] - a[1]) * (p[0] - a[0]);
    }

    private static int[] next(List<int[]> ring, int corner) {
        return ring.get((corner + 1) % ring.size());
    }

    private static boolean isRound(List<int[]> ring) {
        for (int i = 0; i < ring.size(); i++) {
            for (int k = 2; k < ring.size(); k++) {
                if (cross(ring.get(i), next(ring, i), ring.get((i + k) % ring.size())) <= 0) {
                    return false;
                }
            }
        }
        return true;
    }

    private static int twiceArea(List<int[]> ring) {
        int twice = 0;
        for (int i = 1; i + 1 < ring.size(); i++) {
            twice += cross(ring.get(0), ring.get(i), ring.get(i + 1));
        }
        return twice;
    }

    /** Seen from a point in or on a ring, the triangles to its sides make up its area, no more. */
    private static boolean isInOrOn(List<int[]> ring, int[] p) {
        int seen = 0;
        for (int i = 0; i < ring.size(); i++) {
            seen += Math.abs(cross(ring.get(i), next(ring, i), p));
        }
        return seen == twiceArea(ring);
    }

    /** A side's line crosses another in x / w, y / w: a common inside has three such corners, not in a row. */
    private static boolean shareInside(List<int[]> a, List<int[]> b) {
        List<int[][]> sides = new ArrayList<>(sides(a));
        sides.addAll(sides(b));
        List<long[]> found = new ArrayList<>();
        for (int i = 0; i < sides.size(); i++) {
            for (int j = 0; j < i; j++) {
                long[] p = crossing(sides.get(i), sides.get(j));
                if (p != null && sides.stream().allMatch(s -> leftOf(s, p) >= 0)) {
                    found.add(p);
                }
            }
        }
        return !inOneRow(found);
    }

    private static List<int[][]> sides(List<int[]> ring) {
        List<int[][]> sides = new ArrayList<>();
        for (int i = 0; i < ring.size(); i++) {
            sides.add(new int[][] {ring.get(i), next(ring, i)});
        }
        return sides;
    }

    private static long[] crossing(int[][] s, int[][] t) {
        long a = s[1][1] - s[0][1];
        long b = s[0][0] - s[1][0];
        long c = a * s[0][0] + b * s[0][1];
        long d = t[1][1] - t[0][1];
        long e = t[0][0] - t[1][0];
        long f = d * t[0][0] + e * t[0][1];
        long w = a * e - b * d;
        long sign = Long.signum(w);
        return w == 0 ? null : new long[] {sign * (c * e - b * f), sign * (a * f - c * d), sign * w};
    }

    private static long leftOf(int[][] side, long[] p) {
        long x = side[1][0] - side[0][0];
        long y = side[1][1] - side[0][1];
        return x * (p[1] - p[2] * side[0][1]) - y * (p[0] - p[2] * side[0][0]);
    }

    private static boolean inOneRow(List<long[]> found) {
        for (long[] p : found) {
            for (long[] q : found) {
                for (long[] r : found) {
                    BigInteger turn = times(p[0], q[1], r[2]).add(times(p[1], q[2], r[0])).add(times(p[2], q[0], r[1]))
                        .subtract(times(p[2], q[1], r[0])).subtract(times(p[1], q[0], r[2])).subtract(times(p[0], q[2], r[1]));
                    if (turn.signum() != 0) {
                        return false;
                    }
                }
            }
        }
        return true;
    }

    private static BigInteger times(long a, long b, long c) {
        return BigInteger.valueOf(a).multiply(BigInteger.valueOf(b)).multiply(BigInteger.valueOf(c));
    }

    /** How the distance of two rings that don't cross compares with a whole one. */
    private static int apart(List<int[]> a, List<int[]> b, int distance) {
        int least = 1;
        for (int[][] s : sides(a)) {
            for (int[][] t : sides(b)) {
                least = Math.min(least, Math.min(Math.min(apart(s, t[0], distance), apart(s, t[1], distance)),
                    Math.min(apart(t, s[0], distance), apart(t, s[1], distance))));
            }
        }
        return least;
    }

    /** By the nearest point of a side, its start and a share of it, num / den, cut to 0 and 1. */
    private static int apart(int[][] side, int[] p, int distance) {
        long x = side[1][0] - side[0][0];
        long y = side[1][1] - side[0][1];
        long den = x * x + y * y;
        long num = Math.max(0, Math.min(den, x * (p[0] - side[0][0]) + y * (p[1] - side[0][1])));
        long awayX = den * (p[0] - side[0][0]) - num * x;
        long awayY = den * (p[1] - side[0][1]) - num * y;
        return Long.compare(awayX * awayX + awayY * awayY, den * den * distance * distance);
    }
}
