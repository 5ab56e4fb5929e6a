import java.util.ArrayList;

/**
 * A planning bench: plots, plans, designs, applications and holders, each told on a day and
 * asked for as it was on a day and as it was known on a day.
 */
public final class PlanningBench {
    public static final int NONE = -1;

    private static final int LAST_DAY = 9999;
    private static final int LAST_PLACE = 63;
    private static final int MOST_PLOTS = 12;
    private static final int MOST_PLANS = 20;
    private static final int MOST_APPLICATIONS = 40;
    private static final int MOST_HOLDINGS = 100;
    private static final int MOST_BYTES = 600;
    private static final int BYTES_FED = 20;
    private static final int MOST_HEIGHT = 40;
    private static final int LAST_USE = 7;
    private static final int LAST_PERSON = 99;
    private static final int MOST_DISTANCE = 100;
    private static final int NEAR_DISTANCE = 20;
    private static final int REFUSING_WEIGHT = 6;

    private static final int WRONG_ADOPTION = -2;
    private static final int TOO_MANY_PLANS = -3;

    private static final int OBJECTION_LATE = -1;
    private static final int OBJECTION_FAR = -2;
    private static final int OBJECTION_AGAIN = -3;
    private static final int OBJECTION_WRONG = -4;

    private static final int OPEN = 0;
    private static final int PERMITTED = 1;
    private static final int REFUSED = 2;
    private static final int BEGUN = 3;
    private static final int DONE = 4;
    private static final int ENDED = 5;

    private static final int NO_RULE = 0;
    private static final int BY_OBJECTIONS = 9;

    private final ArrayList<Ring> plots;
    private final ArrayList<Plan> plans;
    private final ArrayList<Application> applications;
    private final ArrayList<Holding> holdings;
    private final byte[] tape;
    private Ring draft;
    private int taped;
    private int today;
    private int faultPlace;

    public PlanningBench() {
        plots = new ArrayList<>();
        plans = new ArrayList<>();
        applications = new ArrayList<>();
        holdings = new ArrayList<>();
        tape = new byte[MOST_BYTES];
        draft = new Ring();
        taped = 0;
        today = 0;
        faultPlace = NONE;
    }

    public boolean day(int d) {
        if (d <= today || d > LAST_DAY) {
            return false;
        }
        today = d;
        return true;
    }

    // ---- plots ----

    public int corner(int x, int y) {
        if (!isPlace(x) || !isPlace(y) || !draft.addCorner(x, y)) {
            return NONE;
        }
        return draft.size;
    }

    public int plot() {
        if (plots.size() >= MOST_PLOTS || !draft.goesRoundLeft() || overlapsPlot(draft)) {
            draft.empty();
            return NONE;
        }
        plots.add(draft);
        draft = new Ring();
        return plots.size() - 1;
    }

    public int ring(int plot, int what) {
        Ring asked = ringAt(plot);
        if (asked == null) {
            return NONE;
        }
        if (what == 0) {
            return asked.size;
        }
        if (what == 1) {
            return asked.twiceArea();
        }
        return what < 2 ? NONE : asked.coordinate(what - 2);
    }

    public boolean near(int a, int b, int distance) {
        Ring first = ringAt(a);
        Ring second = ringAt(b);
        if (first == null || second == null || a == b || !isWithin(distance, 0, MOST_DISTANCE)) {
            return false;
        }
        return first.isWithinOf(second, distance);
    }

    private boolean overlapsPlot(Ring ring) {
        for (int i = 0; i < plots.size(); i++) {
            if (ring.overlaps(plots.get(i))) {
                return true;
            }
        }
        return false;
    }

    private Ring ringAt(int plot) {
        return plot >= 0 && plot < plots.size() ? plots.get(plot) : null;
    }

    // ---- plans ----

    public int feed(int a, int b, int c, int d, int e) {
        if (taped > MOST_BYTES - BYTES_FED) {
            return NONE;
        }
        putOnTape(a);
        putOnTape(b);
        putOnTape(c);
        putOnTape(d);
        putOnTape(e);
        return taped;
    }

    public int adopt(int n, int from) {
        if (n < 0 || n > taped || !isDay(from)) {
            return WRONG_ADOPTION;
        }
        if (plans.size() >= MOST_PLANS) {
            return TOO_MANY_PLANS;
        }
        taped = 0;
        Plan read = new Plan(from, today);
        faultPlace = new PlanReader(tape, n).readInto(read);
        if (faultPlace != NONE) {
            return NONE;
        }
        plans.add(read);
        return plans.size() - 1;
    }

    public int fault() {
        return faultPlace;
    }

    public int plan(int day, int known) {
        return isDay(day) && isDay(known) ? planInForce(day, known) : NONE;
    }

    public int zone(int plan, int plot, int what) {
        Plan asked = planAt(plan);
        if (asked == null || ringAt(plot) == null) {
            return NONE;
        }
        int number = asked.zoneNaming(plot);
        Zone found = asked.zoneAt(number);
        if (found == null || what == 0) {
            return number;
        }
        return found.tell(what);
    }

    private void putOnTape(int word) {
        for (int shift = 24; shift >= 0 && taped < MOST_BYTES; shift -= 8) {
            tape[taped] = (byte) (word >>> shift);
            taped++;
        }
    }

    private int planInForce(int day, int known) {
        int best = NONE;
        int bestFrom = NONE;
        for (int i = 0; i < plans.size(); i++) {
            Plan plan = plans.get(i);
            if (plan.knownFrom <= known && plan.from <= day && plan.from >= bestFrom) {
                best = i;
                bestFrom = plan.from;
            }
        }
        return best;
    }

    private Zone zoneInForce(int plot, int day, int known) {
        Plan plan = planAt(planInForce(day, known));
        return plan == null ? null : plan.zoneAt(plan.zoneNaming(plot));
    }

    private Plan planAt(int plan) {
        return plan >= 0 && plan < plans.size() ? plans.get(plan) : null;
    }

    // ---- designs ----

    public int judge(int plot, int x0, int y0, int x1, int y1, int height, int use, int day, int known) {
        Design design = designOn(plot, x0, y0, x1, y1, height, use);
        if (design == null || !isDay(day) || !isDay(known)) {
            return NONE;
        }
        return ruleBroken(design, day, known);
    }

    private Design designOn(int plot, int x0, int y0, int x1, int y1, int height, int use) {
        boolean asTold = ringAt(plot) != null
            && isPlace(x0) && isPlace(x1) && x0 < x1
            && isPlace(y0) && isPlace(y1) && y0 < y1
            && isWithin(height, 1, MOST_HEIGHT)
            && isWithin(use, 0, LAST_USE);
        return asTold ? new Design(plot, x0, y0, x1, y1, height, use) : null;
    }

    private int ruleBroken(Design design, int day, int known) {
        Ring ring = ringAt(design.plot);
        if (ring == null || !ring.surrounds(design)) {
            return 1;
        }
        Zone zone = zoneInForce(design.plot, day, known);
        if (zone == null) {
            return 2;
        }
        if (!zone.allowsUse(design.use)) {
            return 3;
        }
        if (zone.height != NONE && design.height > zone.height) {
            return 4;
        }
        if (zone.cover != NONE && coversTooMuch(design, zone.cover * ring.twiceArea(), day, known)) {
            return 5;
        }
        if (zone.edge != NONE && ring.hasSideNearerThan(zone.edge, design)) {
            return 6;
        }
        if (meetsStanding(design, day, known)) {
            return 7;
        }
        if (zone.shade != NONE && shadesStanding(design, zone.shade, day, known)) {
            return 8;
        }
        return NO_RULE;
    }

    /** The limit is of twice the area in hundredths, as a ring's area may end in a half. */
    private boolean coversTooMuch(Design design, int limit, int day, int known) {
        int area = design.area();
        for (int i = 0; i < applications.size(); i++) {
            Application other = applications.get(i);
            if (other.design.plot == design.plot && other.stoodOn(day, known)) {
                area += other.design.area();
            }
        }
        return 200 * area > limit;
    }

    private boolean meetsStanding(Design design, int day, int known) {
        for (int i = 0; i < applications.size(); i++) {
            Application other = applications.get(i);
            if (other.stoodOn(day, known) && design.meets(other.design)) {
                return true;
            }
        }
        return false;
    }

    private boolean shadesStanding(Design design, int shade, int day, int known) {
        for (int i = 0; i < applications.size(); i++) {
            Application other = applications.get(i);
            if (other.design.plot != design.plot && other.stoodOn(day, known)
                && design.shades(other.design, shade)) {
                return true;
            }
        }
        return false;
    }

    // ---- applications ----

    public int apply(int plot, int x0, int y0, int x1, int y1, int height, int use) {
        if (applications.size() >= MOST_APPLICATIONS) {
            return NONE;
        }
        Design design = designOn(plot, x0, y0, x1, y1, height, use);
        if (design == null) {
            return NONE;
        }
        applications.add(new Application(design, today));
        return applications.size() - 1;
    }

    public int object(int application, int plot) {
        Application asked = applicationAt(application);
        Ring objector = ringAt(plot);
        if (asked == null || asked.state != OPEN || objector == null || plot == asked.design.plot) {
            return OBJECTION_WRONG;
        }
        Ring own = ringAt(asked.design.plot);
        if (own == null || !own.isWithinOf(objector, NEAR_DISTANCE)) {
            return OBJECTION_FAR;
        }
        if (today > asked.lastDayToObject()) {
            return OBJECTION_LATE;
        }
        if (asked.hasObjected(plot)) {
            return OBJECTION_AGAIN;
        }
        int weight = own.isWithinOf(objector, 0) ? 2 : 1;
        asked.addObjection(plot, weight);
        return weight;
    }

    public int decide(int application) {
        Application asked = applicationAt(application);
        if (asked == null || asked.state != OPEN || today <= asked.lastDayToObject()) {
            return NONE;
        }
        int reason = ruleBroken(asked.design, asked.day, today);
        if (reason == NO_RULE && asked.weight >= REFUSING_WEIGHT) {
            reason = BY_OBJECTIONS;
        }
        if (reason == NO_RULE) {
            asked.permit(today);
        } else {
            asked.refuse(reason, today);
        }
        return reason;
    }

    public int build(int application) {
        Application asked = applicationAt(application);
        return asked == null ? NONE : asked.goOn(today);
    }

    public int appeal(int application) {
        Application asked = applicationAt(application);
        if (asked == null || !asked.mayBeAppealed(today)) {
            return NONE;
        }
        asked.appealed = true;
        int reason = ruleBroken(asked.design, asked.day, today);
        if (reason == NO_RULE) {
            asked.permit(today);
        }
        return reason;
    }

    public int clash(int application) {
        Application asked = applicationAt(application);
        if (asked == null) {
            return NONE;
        }
        int met = 0;
        for (int i = 0; i < applications.size(); i++) {
            Application other = applications.get(i);
            if (i != application && other.stoodOn(today, today) && asked.design.meets(other.design)) {
                met++;
            }
        }
        return met;
    }

    public int told(int application, int what) {
        Application asked = applicationAt(application);
        return asked == null ? NONE : asked.tell(what, today);
    }

    public boolean raze(int application, int since) {
        Application asked = applicationAt(application);
        if (asked == null || since > today) {
            return false;
        }
        return asked.razeSince(since, today);
    }

    public boolean stands(int application, int day, int known) {
        Application asked = applicationAt(application);
        if (asked == null || !isDay(day) || !isDay(known)) {
            return false;
        }
        return asked.stoodOn(day, known);
    }

    private Application applicationAt(int application) {
        return application >= 0 && application < applications.size() ? applications.get(application) : null;
    }

    private int standingToday() {
        int standing = 0;
        for (int i = 0; i < applications.size(); i++) {
            if (applications.get(i).stoodOn(today, today)) {
                standing++;
            }
        }
        return standing;
    }

    // ---- holders ----

    public boolean hold(int plot, int person, int since) {
        if (ringAt(plot) == null || !isWithin(person, 0, LAST_PERSON)
            || !isWithin(since, 0, today) || holdings.size() >= MOST_HOLDINGS) {
            return false;
        }
        holdings.add(new Holding(plot, person, since, today));
        return true;
    }

    public int holder(int plot, int day, int known) {
        if (ringAt(plot) == null || !isDay(day) || !isDay(known)) {
            return NONE;
        }
        int person = NONE;
        int bestSince = NONE;
        for (int i = 0; i < holdings.size(); i++) {
            Holding holding = holdings.get(i);
            if (holding.plot == plot && holding.knownFrom <= known
                && holding.since <= day && holding.since >= bestSince) {
                person = holding.person;
                bestSince = holding.since;
            }
        }
        return person;
    }

    public int count(int what) {
        switch (what) {
            case 0:
                return today;
            case 1:
                return plots.size();
            case 2:
                return plans.size();
            case 3:
                return applications.size();
            case 4:
                return taped;
            case 5:
                return draft.size;
            case 6:
                return standingToday();
            default:
                return NONE;
        }
    }

    private static boolean isDay(int day) {
        return isWithin(day, 0, LAST_DAY);
    }

    private static boolean isPlace(int place) {
        return isWithin(place, 0, LAST_PLACE);
    }

    private static boolean isWithin(int number, int low, int high) {
        return number >= low && number <= high;
    }

    /** The corners of a plot, or of one that is still being told. */
    private static final class Ring {
        private static final int LEAST_CORNERS = 3;
        private static final int MOST_CORNERS = 8;

        private final int[] xs = new int[MOST_CORNERS];
        private final int[] ys = new int[MOST_CORNERS];
        private int size = 0;

        boolean addCorner(int x, int y) {
            if (size >= MOST_CORNERS) {
                return false;
            }
            xs[size] = x;
            ys[size] = y;
            size++;
            return true;
        }

        void empty() {
            size = 0;
        }

        /** The x of corner 0, its y, the x of corner 1, and so on. */
        int coordinate(int index) {
            if (index < 0 || index >= 2 * size) {
                return NONE;
            }
            return index % 2 == 0 ? xs[index / 2] : ys[index / 2];
        }

        int twiceArea() {
            int twice = 0;
            for (int i = 0; i < size; i++) {
                int next = after(i);
                twice += xs[i] * ys[next] - xs[next] * ys[i];
            }
            return twice;
        }

        boolean goesRoundLeft() {
            if (size < LEAST_CORNERS) {
                return false;
            }
            for (int side = 0; side < size; side++) {
                if (!hasOthersLeftOf(side)) {
                    return false;
                }
            }
            return true;
        }

        private boolean hasOthersLeftOf(int side) {
            for (int i = 0; i < size; i++) {
                if (i != side && i != after(side) && leftness(side, xs[i], ys[i]) <= 0) {
                    return false;
                }
            }
            return true;
        }

        /** Of two rings without a bend to the right, a side of one parts them if anything does. */
        boolean overlaps(Ring other) {
            return !hasSideBefore(other) && !other.hasSideBefore(this);
        }

        private boolean hasSideBefore(Ring other) {
            for (int side = 0; side < size; side++) {
                if (!reachesLeftOf(side, other)) {
                    return true;
                }
            }
            return false;
        }

        private boolean reachesLeftOf(int side, Ring other) {
            for (int i = 0; i < other.size; i++) {
                if (leftness(side, other.xs[i], other.ys[i]) > 0) {
                    return true;
                }
            }
            return false;
        }

        /** Rings that don't overlap are nearest to each other at a corner of one of them. */
        boolean isWithinOf(Ring other, int distance) {
            return hasSideWithinOfCorner(other, distance) || other.hasSideWithinOfCorner(this, distance);
        }

        private boolean hasSideWithinOfCorner(Ring other, int distance) {
            for (int i = 0; i < other.size; i++) {
                for (int side = 0; side < size; side++) {
                    if (compareDistance(side, other.xs[i], other.ys[i], distance) <= 0) {
                        return true;
                    }
                }
            }
            return false;
        }

        boolean surrounds(Design design) {
            return hasInside(design.x0, design.y0) && hasInside(design.x1, design.y0)
                && hasInside(design.x1, design.y1) && hasInside(design.x0, design.y1);
        }

        private boolean hasInside(int x, int y) {
            for (int side = 0; side < size; side++) {
                if (leftness(side, x, y) < 0) {
                    return false;
                }
            }
            return true;
        }

        /** Of a rectangle that the ring surrounds, a corner is the nearest point to the sides. */
        boolean hasSideNearerThan(int distance, Design design) {
            return hasSideNearer(design.x0, design.y0, distance) || hasSideNearer(design.x1, design.y0, distance)
                || hasSideNearer(design.x1, design.y1, distance) || hasSideNearer(design.x0, design.y1, distance);
        }

        private boolean hasSideNearer(int x, int y, int distance) {
            for (int side = 0; side < size; side++) {
                if (compareDistance(side, x, y, distance) < 0) {
                    return true;
                }
            }
            return false;
        }

        /** Above 0 to the left of the side's line, 0 on it, below 0 to the right of it. */
        private int leftness(int side, int x, int y) {
            int next = after(side);
            return (xs[next] - xs[side]) * (y - ys[side]) - (ys[next] - ys[side]) * (x - xs[side]);
        }

        /** How a point's distance from the side's points compares; in squares, to stay exact. */
        private int compareDistance(int side, int x, int y, int distance) {
            int next = after(side);
            long sideX = xs[next] - xs[side];
            long sideY = ys[next] - ys[side];
            long fromX = x - xs[side];
            long fromY = y - ys[side];
            long square = (long) distance * distance;
            long sideSquare = sideX * sideX + sideY * sideY;
            long along = fromX * sideX + fromY * sideY;
            if (along <= 0) {
                return Long.compare(fromX * fromX + fromY * fromY, square);
            }
            if (along >= sideSquare) {
                long pastX = fromX - sideX;
                long pastY = fromY - sideY;
                return Long.compare(pastX * pastX + pastY * pastY, square);
            }
            long across = sideX * fromY - sideY * fromX;
            return Long.compare(across * across, square * sideSquare);
        }

        private int after(int corner) {
            return corner + 1 < size ? corner + 1 : 0;
        }
    }

    /** A rectangle with a height and a use on a plot. */
    private static final class Design {
        private final int plot;
        private final int x0;
        private final int y0;
        private final int x1;
        private final int y1;
        private final int height;
        private final int use;

        Design(int plot, int x0, int y0, int x1, int y1, int height, int use) {
            this.plot = plot;
            this.x0 = x0;
            this.y0 = y0;
            this.x1 = x1;
            this.y1 = y1;
            this.height = height;
            this.use = use;
        }

        int area() {
            return (x1 - x0) * (y1 - y0);
        }

        boolean meets(Design other) {
            return x0 < other.x1 && other.x0 < x1 && y0 < other.y1 && other.y0 < y1;
        }

        /** A shade of no length has no inside, wherever it lies. */
        boolean shades(Design other, int shade) {
            int length = height * shade / 10;
            return length > 0 && x0 < other.x1 && other.x0 < x1 && y1 < other.y1 && other.y0 < y1 + length;
        }
    }

    /** A part of a plan: the plots that it names and what it tells of them. */
    private static final class Zone {
        private static final int PLOTS = 0;
        private static final int USE = 1;
        private static final int HEIGHT = 2;
        private static final int COVER = 3;
        private static final int EDGE = 4;
        private static final int SHADE = 5;
        private static final int FIRST_USE_TOLD = 10;
        private static final int SET_SIZE = 16;

        private int plots = 0;
        private int uses = 0;
        private int height = NONE;
        private int cover = NONE;
        private int edge = NONE;
        private int shade = NONE;

        /** Numbers that no plot and no use can bear have no bit: a text may tell them in vain. */
        static int bitOf(int number) {
            return isWithin(number, 0, SET_SIZE - 1) ? 1 << number : 0;
        }

        void put(int item, int value) {
            switch (item) {
                case PLOTS:
                    plots = value;
                    break;
                case USE:
                    uses = value;
                    break;
                case HEIGHT:
                    height = value;
                    break;
                case COVER:
                    cover = value;
                    break;
                case EDGE:
                    edge = value;
                    break;
                case SHADE:
                    shade = value;
                    break;
                default:
                    break;
            }
        }

        boolean names(int plot) {
            return (plots & bitOf(plot)) != 0;
        }

        boolean allowsUse(int use) {
            return (uses & bitOf(use)) != 0;
        }

        int tell(int what) {
            switch (what) {
                case 1:
                    return height;
                case 2:
                    return cover;
                case 3:
                    return edge;
                case 4:
                    return shade;
                default:
                    return tellUse(what);
            }
        }

        private int tellUse(int what) {
            if (!isWithin(what, FIRST_USE_TOLD, FIRST_USE_TOLD + LAST_USE)) {
                return NONE;
            }
            return allowsUse(what - FIRST_USE_TOLD) ? 1 : 0;
        }
    }

    /** The zones of a text, the day it is in force from, and the day it is known from. */
    private static final class Plan {
        private final int from;
        private final int knownFrom;
        private final ArrayList<Zone> zones = new ArrayList<>();

        Plan(int from, int knownFrom) {
            this.from = from;
            this.knownFrom = knownFrom;
        }

        int zoneNaming(int plot) {
            for (int i = 0; i < zones.size(); i++) {
                if (zones.get(i).names(plot)) {
                    return i;
                }
            }
            return NONE;
        }

        Zone zoneAt(int number) {
            return number >= 0 && number < zones.size() ? zones.get(number) : null;
        }
    }

    /** Reads a plan's text, a token at a time; where it stops early, the token is the fault. */
    private static final class PlanReader {
        private static final int MOST_ZONES = 8;
        private static final int MOST_DIGITS = 3;

        private final byte[] text;
        private final int length;
        private int start = 0;
        private int end = 0;

        PlanReader(byte[] text, int length) {
            this.text = text;
            this.length = Math.min(length, text.length);
        }

        /** The place of the fault, or NONE. */
        int readInto(Plan plan) {
            advance();
            for (int i = 0; i < MOST_ZONES && start < length; i++) {
                Zone zone = new Zone();
                if (!readZone(zone)) {
                    return start;
                }
                plan.zones.add(zone);
            }
            return start < length ? start : NONE;
        }

        private boolean readZone(Zone zone) {
            if (!take("zone") || !take("{")) {
                return false;
            }
            for (int i = 0; i < length && !isHere("}"); i++) {
                if (!readItem(zone)) {
                    return false;
                }
            }
            return take("}");
        }

        private boolean readItem(Zone zone) {
            int item = itemHere();
            if (item == NONE) {
                return false;
            }
            advance();
            int value = item == Zone.PLOTS || item == Zone.USE ? readSet() : readNumber();
            if (value == NONE || !take(";")) {
                return false;
            }
            zone.put(item, value);
            return true;
        }

        private int itemHere() {
            if (isHere("plots")) {
                return Zone.PLOTS;
            }
            if (isHere("use")) {
                return Zone.USE;
            }
            if (isHere("height")) {
                return Zone.HEIGHT;
            }
            if (isHere("cover")) {
                return Zone.COVER;
            }
            if (isHere("edge")) {
                return Zone.EDGE;
            }
            return isHere("shade") ? Zone.SHADE : NONE;
        }

        /** The bits of one number or more; NONE where there is no number. */
        private int readSet() {
            int number = readNumber();
            if (number == NONE) {
                return NONE;
            }
            int set = Zone.bitOf(number);
            for (int i = 0; i < length && number != NONE; i++) {
                number = readNumber();
                set |= Zone.bitOf(number);
            }
            return set;
        }

        /** The number that is here, which is read then; NONE where there is none. */
        private int readNumber() {
            if (start >= length || !isDigit(text[start]) || end - start > MOST_DIGITS) {
                return NONE;
            }
            int number = 0;
            for (int i = start; i < end; i++) {
                number = 10 * number + text[i] - '0';
            }
            advance();
            return number;
        }

        private boolean take(String token) {
            if (!isHere(token)) {
                return false;
            }
            advance();
            return true;
        }

        private boolean isHere(String token) {
            if (end - start != token.length()) {
                return false;
            }
            for (int i = 0; i < token.length(); i++) {
                if (text[start + i] != token.charAt(i)) {
                    return false;
                }
            }
            return true;
        }

        /** Behind the last token both ends are the text's length: there a fault asks for more. */
        private void advance() {
            start = end;
            while (start < length && isBlank(text[start])) {
                start++;
            }
            end = start;
            while (end < length && isLetter(text[end])) {
                end++;
            }
            if (end > start) {
                return;
            }
            while (end < length && isDigit(text[end])) {
                end++;
            }
            if (end == start && end < length) {
                end++;
            }
        }

        private static boolean isBlank(byte b) {
            return b == 32 || b == 10;
        }

        private static boolean isLetter(byte b) {
            return b >= 'a' && b <= 'z';
        }

        private static boolean isDigit(byte b) {
            return b >= '0' && b <= '9';
        }
    }

    /** A design that was applied for, and what came of it. */
    private static final class Application {
        private static final int DAYS_TO_OBJECT = 30;
        private static final int DAYS_TO_BEGIN = 400;
        private static final int DAYS_TO_BUILD = 300;
        private static final int DAYS_TO_APPEAL = 60;

        private final Design design;
        private final int day;
        private int state = OPEN;
        private int objectors = 0;
        private int weight = 0;
        private int refusedBy = NO_RULE;
        private int decidedDay = NONE;
        private int begunDay = NONE;
        private int doneDay = NONE;
        private boolean appealed = false;
        private int razedSince = NONE;
        private int razeKnownFrom = NONE;

        Application(Design design, int day) {
            this.design = design;
            this.day = day;
        }

        int lastDayToObject() {
            return day + DAYS_TO_OBJECT;
        }

        boolean hasObjected(int plot) {
            return (objectors & Zone.bitOf(plot)) != 0;
        }

        void addObjection(int plot, int added) {
            objectors |= Zone.bitOf(plot);
            weight += added;
        }

        void permit(int today) {
            state = PERMITTED;
            decidedDay = today;
        }

        void refuse(int reason, int today) {
            state = REFUSED;
            refusedBy = reason;
            decidedDay = today;
        }

        boolean mayBeAppealed(int today) {
            return state == REFUSED && !appealed && today <= decidedDay + DAYS_TO_APPEAL;
        }

        /** Begins or ends the building; how it is then, or NONE where it can't go on. */
        int goOn(int today) {
            int now = stateOn(today);
            if (now == PERMITTED) {
                state = BEGUN;
                begunDay = today;
                return state;
            }
            if (now == BEGUN) {
                state = DONE;
                doneDay = today;
                return state;
            }
            return NONE;
        }

        /** Nobody tells that a permission ends: it is found when it is asked for. */
        private int stateOn(int today) {
            boolean ended = state == PERMITTED && today > decidedDay + DAYS_TO_BEGIN
                || state == BEGUN && today > begunDay + DAYS_TO_BUILD;
            return ended ? ENDED : state;
        }

        private int lastDayToGoOn(int today) {
            switch (stateOn(today)) {
                case OPEN:
                    return lastDayToObject();
                case PERMITTED:
                    return decidedDay + DAYS_TO_BEGIN;
                case BEGUN:
                    return begunDay + DAYS_TO_BUILD;
                case REFUSED:
                    return appealed ? NONE : decidedDay + DAYS_TO_APPEAL;
                default:
                    return NONE;
            }
        }

        int tell(int what, int today) {
            switch (what) {
                case 0:
                    return stateOn(today);
                case 1:
                    return day;
                case 2:
                    return design.plot;
                case 3:
                    return refusedBy;
                case 4:
                    return weight;
                case 5:
                    return decidedDay;
                case 6:
                    return begunDay;
                case 7:
                    return doneDay;
                case 8:
                    return lastDayToGoOn(today);
                case 9:
                    return appealed ? 1 : 0;
                default:
                    return NONE;
            }
        }

        boolean razeSince(int since, int today) {
            if (state != DONE || since < doneDay || razedSince != NONE) {
                return false;
            }
            razedSince = since;
            razeKnownFrom = today;
            return true;
        }

        /** The day it was done is the day from which that is known, too. */
        boolean stoodOn(int asked, int known) {
            if (state != DONE || asked < doneDay || known < doneDay) {
                return false;
            }
            return razedSince == NONE || asked < razedSince || known < razeKnownFrom;
        }
    }

    /** A person who holds a plot from a day on, and the day that is known from. */
    private static final class Holding {
        private final int plot;
        private final int person;
        private final int since;
        private final int knownFrom;

        Holding(int plot, int person, int since, int knownFrom) {
            this.plot = plot;
            this.person = person;
            this.since = since;
            this.knownFrom = knownFrom;
        }
    }
}
