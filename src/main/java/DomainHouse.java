import java.util.Arrays;

/** Domains, their ties and policies, the routes told among them in time, and small nets at rest. */
public final class DomainHouse {
    public static final int BAD = -1, NO = -2, FULL = -3, NONE = -99999999;

    private static final int OWN = -4;
    private static final int NEVER = -1;
    private static final int TAPE_MOST = 1000;
    private static final int PREFIXES_MOST = 10;
    private static final int DOMAINS_MOST = 10;
    private static final int TIES_MOST = 20;
    private static final int RIGHTS_MOST = 30;
    private static final int POLICIES_MOST = 12;
    private static final int DEMANDS_MOST = 16;
    private static final int WAY_MOST = 20;
    private static final int MARKS_MOST = 8;
    private static final int ADDRESS_BITS = 32;
    private static final int WISH_AT_FIRST = 100;
    private static final int WISH_MOST = 1000;
    private static final int ORIGIN_MOST = 2;
    private static final int COST_MOST = 1000000;
    private static final int MARK_MOST = 65535;
    private static final int UNITS_MOST = 1000000;
    private static final int EVENTS_A_CALL = 500;
    private static final int PACE_MOST = 1000;
    private static final int MOMENT_TOLD_MOST = 1000000000;
    private static final int MOMENT_DONE_MOST = 2000000000;

    private static final int KIND_PROVIDER = 0;
    private static final int KIND_EQUALS = 1;
    private static final int KIND_KIN = 2;

    private static final int CUSTOMER = 0;
    private static final int PROVIDER = 1;
    private static final int EQUAL = 2;
    private static final int KIN = 3;

    private static final int IN = 0;
    private static final int OUT = 1;

    private final int[] tape;
    private final int[] wayInHand;
    private final Route routeInHand;
    private final World world;
    private final Judge court;
    private final Reader reader;
    private final Talk talk;
    private final Message mail;
    private final Letters letters;
    private final Net net;
    private int tapeSize;
    private int wayLength;

    public DomainHouse() {
        tape = new int[TAPE_MOST];
        wayInHand = new int[WAY_MOST];
        routeInHand = new Route();
        world = new World();
        court = new Judge(world);
        reader = new Reader();
        talk = new Talk(world, court);
        mail = new Message();
        letters = new Letters(world);
        net = new Net();
    }

    // ---- the tape

    public int feed(int a, int b, int c, int d, int e) {
        if (tapeSize + 20 > TAPE_MOST) {
            return FULL;
        }
        feedNumber(a);
        feedNumber(b);
        feedNumber(c);
        feedNumber(d);
        feedNumber(e);
        return tapeSize;
    }

    private void feedNumber(int number) {
        for (int shift = 24; shift >= 0; shift -= 8) {
            tape[tapeSize] = number >>> shift & 255;
            tapeSize++;
        }
    }

    public int cut(int n) {
        if (n < 0 || n > tapeSize) {
            return BAD;
        }
        int had = tapeSize;
        tapeSize = n;
        return had;
    }

    // ---- prefixes, domains, ties

    public int prefix(int address, int length) {
        if (length < 0 || length > ADDRESS_BITS || (address & ~World.maskOf(length)) != 0) {
            return BAD;
        }
        if (world.findPrefix(address, length) >= 0) {
            return NO;
        }
        if (world.prefixes >= PREFIXES_MOST) {
            return FULL;
        }
        return world.addPrefix(address, length);
    }

    public int domain() {
        if (world.domains >= DOMAINS_MOST) {
            return FULL;
        }
        return world.addDomain();
    }

    public int tie(int a, int b, int kind) {
        if (!isDomain(a) || !isDomain(b) || a == b || kind < KIND_PROVIDER || kind > KIND_KIN) {
            return BAD;
        }
        if (world.tieBetween(a, b) >= 0) {
            return NO;
        }
        if (world.ties >= TIES_MOST) {
            return FULL;
        }
        return world.addTie(a, b, kind);
    }

    public int pace(int tie, int delay, int gap) {
        if (!isTie(tie) || delay < 1 || delay > PACE_MOST || gap < 0 || gap > PACE_MOST) {
            return BAD;
        }
        world.tie[tie].delay = delay;
        world.tie[tie].gap = gap;
        return 0;
    }

    public int raise(int tie, boolean up) {
        if (!isTie(tie)) {
            return BAD;
        }
        int was = world.tie[tie].up ? 1 : 0;
        if (up) {
            world.tie[tie].up = true;
            talk.sayAll(tie, 0);
            talk.sayAll(tie, 1);
        } else if (was == 1) {
            talk.silence(tie);
            talk.lookAtAll(world.tie[tie].a);
            talk.lookAtAll(world.tie[tie].b);
        }
        return was;
    }

    public int cone(int domain, int other) {
        if (!isDomain(domain) || other != -1 && !isDomain(other)) {
            return BAD;
        }
        int inside = world.coneOf(domain);
        return other == -1 ? Integer.bitCount(inside) : inside >> other & 1;
    }

    public int ring(int i) {
        int length = world.findRing();
        return i < 0 || i >= length ? NONE : world.ringRow[i];
    }

    public int walk(int domain) {
        if (domain < -1 || domain >= DOMAINS_MOST) {
            return BAD;
        }
        if (domain == -1) {
            wayLength = 0;
            return 0;
        }
        if (wayLength >= WAY_MOST) {
            return FULL;
        }
        wayInHand[wayLength] = domain;
        wayLength++;
        return wayLength;
    }

    public int letWay() {
        return world.firstWrongStep(wayInHand, wayLength) + 1;
    }

    // ---- rights

    public int today(int day) {
        if (day < 0) {
            return BAD;
        }
        int was = world.today;
        world.today = day;
        talk.tellAllAnew();
        return was;
    }

    public int right(int prefix, int most, int domain, int from, int to, int known) {
        if (!isPrefix(prefix) || !isDomain(domain) || most < world.length[prefix] || most > ADDRESS_BITS) {
            return BAD;
        }
        if (from < 0 || to <= from || known < 0) {
            return BAD;
        }
        if (world.rights >= RIGHTS_MOST) {
            return FULL;
        }
        int number = world.addRight(prefix, most, domain, from, to, known);
        talk.tellAllAnew();
        return number;
    }

    public int strike(int right, int day) {
        if (right < 0 || right >= world.rights || day < world.rightKnown[right]) {
            return BAD;
        }
        if (world.rightStruck[right] != NEVER) {
            return NO;
        }
        world.rightStruck[right] = day;
        talk.tellAllAnew();
        return 0;
    }

    public int verdict(int prefix, int number, int day, int known) {
        if (!isPrefix(prefix) || day < 0 || known < 0) {
            return BAD;
        }
        return world.verdictOn(prefix, number, day, known);
    }

    // ---- policies

    public int policy() {
        reader.read(tape, tapeSize, court.policies);
        tapeSize = 0;
        if (reader.fault != 0) {
            return -10 - reader.faultPlace;
        }
        if (court.policies >= POLICIES_MOST) {
            return FULL;
        }
        return court.addPolicy(reader.result());
    }

    public int fault() {
        return reader.fault;
    }

    public int route(int prefix, int wish, int origin, int cost) {
        if (!isPrefix(prefix) || wish < 0 || wish > WISH_MOST) {
            return BAD;
        }
        if (origin < 0 || origin > ORIGIN_MOST || cost < 0 || cost > COST_MOST) {
            return BAD;
        }
        routeInHand.begin(prefix, origin);
        routeInHand.wish = wish;
        routeInHand.cost = cost;
        System.arraycopy(wayInHand, 0, routeInHand.way, 0, wayLength);
        routeInHand.wayLength = wayLength;
        return 0;
    }

    public int judge(int policy, int domain, int partner) {
        if (policy < 0 || policy >= court.policies || !isDomain(domain) || !isDomain(partner)) {
            return BAD;
        }
        int number = world.tieBetween(domain, partner);
        if (number < 0) {
            return BAD;
        }
        if (!routeInHand.there) {
            return NO;
        }
        Tie tie = world.tie[number];
        return court.lets(policy, routeInHand, tie, tie.sideOf(domain)) ? 1 : 0;
    }

    public int hand(int what) {
        if (!routeInHand.there) {
            return NONE;
        }
        switch (what) {
            case 0:
                return routeInHand.prefix;
            case 1:
                return routeInHand.wish;
            case 2:
                return routeInHand.origin;
            case 3:
                return routeInHand.cost;
            case 4:
                return routeInHand.wayLength;
            case 5:
                return routeInHand.markCount;
            default:
                return rowInHand(what);
        }
    }

    private int rowInHand(int what) {
        if (what >= 10 && what < 10 + routeInHand.wayLength) {
            return routeInHand.way[what - 10];
        }
        if (what >= 100 && what < 100 + routeInHand.markCount) {
            return routeInHand.marks[what - 100];
        }
        return NONE;
    }

    // ---- routes in time

    public int use(int tie, int side, int way, int policy) {
        if (!isTie(tie) || !isEither(side) || !isEither(way)) {
            return BAD;
        }
        if (policy != NONE && (policy < 0 || policy >= court.policies)) {
            return BAD;
        }
        world.tie[tie].policy[side * 2 + way] = policy;
        if (way == IN) {
            talk.lookAtAll(world.tie[tie].end(side));
        } else {
            talk.sayAll(tie, side);
        }
        return 0;
    }

    public int rule(int domain, int steps, boolean grouped) {
        if (!isDomain(domain) || !isRule(steps)) {
            return BAD;
        }
        world.domain[domain].goBy(steps, grouped);
        talk.lookAtAll(domain);
        return 0;
    }

    private static boolean isRule(int steps) {
        if (steps < 0) {
            return false;
        }
        int seen = 0;
        for (int left = steps; left > 0; left /= 10) {
            int figure = left % 10;
            if (figure < 1 || figure > 6 || (seen >> figure & 1) != 0) {
                return false;
            }
            seen |= 1 << figure;
        }
        return true;
    }

    public int announce(int domain, int prefix, int origin) {
        if (!isDomain(domain) || !isPrefix(prefix) || origin < 0 || origin > ORIGIN_MOST) {
            return BAD;
        }
        if (world.domain[domain].begun[prefix] == origin) {
            return NO;
        }
        world.domain[domain].begun[prefix] = origin;
        talk.look(domain, prefix);
        return 0;
    }

    public int withdraw(int domain, int prefix) {
        if (!isDomain(domain) || !isPrefix(prefix)) {
            return BAD;
        }
        if (world.domain[domain].begun[prefix] == NEVER) {
            return NO;
        }
        world.domain[domain].begun[prefix] = NEVER;
        talk.look(domain, prefix);
        return 0;
    }

    public int go(int n) {
        if (n < 1 || n > EVENTS_A_CALL) {
            return BAD;
        }
        int did = 0;
        while (did < n && talk.doNext(MOMENT_DONE_MOST)) {
            did++;
        }
        return did;
    }

    public int until(int moment) {
        if (moment < talk.clock || moment > MOMENT_TOLD_MOST) {
            return BAD;
        }
        int did = 0;
        while (did < EVENTS_A_CALL && talk.doNext(moment)) {
            did++;
        }
        talk.passTo(moment);
        return did;
    }

    public int picked(int domain, int prefix) {
        if (!isDomain(domain) || !isPrefix(prefix)) {
            return BAD;
        }
        Domain looked = world.domain[domain];
        if (looked.pickedTie[prefix] != NONE) {
            routeInHand.become(looked.picked[prefix]);
        }
        return looked.pickedTie[prefix];
    }

    public int heard(int tie, int side, int prefix, int what) {
        if (!isTie(tie) || !isEither(side) || !isPrefix(prefix) || !isEither(what)) {
            return BAD;
        }
        int place = Tie.placeOf(side, prefix);
        Route asked = what == 0 ? world.tie[tie].heard[place] : world.tie[tie].said[place];
        if (!asked.there) {
            return NONE;
        }
        routeInHand.become(asked);
        return asked.when;
    }

    public int why(int tie, int side, int prefix) {
        if (!isTie(tie) || !isEither(side) || !isPrefix(prefix)) {
            return BAD;
        }
        return talk.reason(tie, side, prefix);
    }

    public int three(int domain, int prefix, int k) {
        if (!isDomain(domain) || !isPrefix(prefix)) {
            return BAD;
        }
        return k < 0 || k > 2 ? NONE : talk.threeInRing(domain, prefix, k);
    }

    // ---- messages

    public int message() {
        int kind = mail.read(tape, tapeSize);
        tapeSize = 0;
        return kind;
    }

    public int part(int what) {
        return mail.told(what);
    }

    public int hear(int tie, int side) {
        if (!isTie(tie) || !isEither(side)) {
            return BAD;
        }
        if (!mail.taken || !world.tie[tie].up) {
            return NO;
        }
        return talk.takeIn(mail, tie, side);
    }

    public int write(int tie, int side, int prefix) {
        if (!isTie(tie) || !isEither(side) || !isPrefix(prefix)) {
            return BAD;
        }
        Route said = world.tie[tie].said[Tie.placeOf(side, prefix)];
        return mail.putDown(said, world.address[prefix], world.length[prefix]);
    }

    public int octet(int i) {
        return i < 0 || i >= mail.writtenSize ? NONE : mail.written[i];
    }

    // ---- letters

    public int letter(int domain, int address) {
        return isDomain(domain) ? letters.send(domain, address) : BAD;
    }

    public int led(int i) {
        return i < 0 || i >= letters.ledCount ? NONE : letters.ledTo[i];
    }

    public int demand(int from, int address, int units) {
        if (!isDomain(from) || units < 1 || units > UNITS_MOST) {
            return BAD;
        }
        if (letters.demands >= DEMANDS_MOST) {
            return FULL;
        }
        return letters.addDemand(from, address, units);
    }

    public int load(int tie, int side) {
        if (!isTie(tie) || !isEither(side)) {
            return BAD;
        }
        Tie over = world.tie[tie];
        return letters.unitsOver(over.end(side), over.end(1 - side));
    }

    public int units(int what) {
        return what < 0 || what > 2 ? BAD : letters.unitsThat(what);
    }

    public int least(int domain) {
        return isDomain(domain) ? letters.leastTable(domain) : BAD;
    }

    public long differ(int a, int b) {
        return isDomain(a) && isDomain(b) ? letters.unlikeAddresses(a, b) : -1;
    }

    // ---- nets

    public int clear() {
        return net.forget();
    }

    public int wish() {
        if (!Net.isWish(wayInHand, wayLength)) {
            return BAD;
        }
        if (net.find(wayInHand, 0, wayLength) >= 0) {
            return NO;
        }
        if (net.wishes[wayInHand[0]] >= Net.WISHES_MOST) {
            return FULL;
        }
        return net.addWish(wayInHand, wayLength);
    }

    public int rests() {
        net.findRests();
        return net.restCount;
    }

    public int rest(int i, int place) {
        net.findRests();
        if (i < 0 || i >= net.restCount || place < 1 || place >= Net.PLACES) {
            return BAD;
        }
        return net.wayInRest(i, place);
    }

    public int tries(int what) {
        if (what < 0 || what > 3) {
            return BAD;
        }
        net.explore();
        return net.found[what];
    }

    public int count(int what) {
        switch (what) {
            case 0:
                return world.prefixes;
            case 1:
                return world.domains;
            case 2:
                return world.ties;
            case 3:
                return world.rights;
            case 4:
                return court.policies;
            case 5:
                return letters.demands;
            case 6:
                return tapeSize;
            case 7:
                return talk.clock;
            case 8:
                return talk.queued;
            case 9:
                return talk.done;
            case 10:
                return wayLength;
            case 11:
                return world.today;
            default:
                return BAD;
        }
    }

    private boolean isDomain(int number) {
        return number >= 0 && number < world.domains;
    }

    private boolean isPrefix(int number) {
        return number >= 0 && number < world.prefixes;
    }

    private boolean isTie(int number) {
        return number >= 0 && number < world.ties;
    }

    private static boolean isEither(int number) {
        return number == 0 || number == 1;
    }

    /** A route, or nothing: one kept where it belongs and overwritten, so that telling makes no objects. */
    private static final class Route {
        final int[] way;
        final int[] marks;
        boolean there;
        int prefix;
        int wish;
        int origin;
        int cost;
        int wayLength;
        int markCount;
        int when;
        int tie;
        int partner;

        Route() {
            way = new int[WAY_MOST];
            marks = new int[MARKS_MOST];
            when = NEVER;
        }

        void begin(int ofPrefix, int withOrigin) {
            there = true;
            prefix = ofPrefix;
            wish = WISH_AT_FIRST;
            origin = withOrigin;
            cost = 0;
            wayLength = 0;
            markCount = 0;
        }

        /** When, over which tie and from whom is left out: it belongs to the hearing, not to the route. */
        void become(Route other) {
            there = other.there;
            prefix = other.prefix;
            wish = other.wish;
            origin = other.origin;
            cost = other.cost;
            wayLength = other.wayLength;
            markCount = other.markCount;
            System.arraycopy(other.way, 0, way, 0, other.wayLength);
            System.arraycopy(other.marks, 0, marks, 0, other.markCount);
        }

        void vanish() {
            there = false;
            when = NEVER;
        }

        boolean isAlike(Route other) {
            if (!there || !other.there) {
                return there == other.there;
            }
            if (wish != other.wish || origin != other.origin || cost != other.cost) {
                return false;
            }
            if (wayLength != other.wayLength || markCount != other.markCount) {
                return false;
            }
            for (int i = 0; i < wayLength; i++) {
                if (way[i] != other.way[i]) {
                    return false;
                }
            }
            for (int i = 0; i < markCount; i++) {
                if (marks[i] != other.marks[i]) {
                    return false;
                }
            }
            return true;
        }

        boolean passes(int number) {
            for (int i = 0; i < wayLength; i++) {
                if (way[i] == number) {
                    return true;
                }
            }
            return false;
        }

        boolean sharesFirst(Route other) {
            return wayLength > 0 && other.wayLength > 0 && way[0] == other.way[0];
        }

        boolean putInFront(int number, int times) {
            if (times < 0 || wayLength + times > WAY_MOST) {
                return false;
            }
            for (int i = wayLength - 1; i >= 0; i--) {
                way[i + times] = way[i];
            }
            for (int i = 0; i < times; i++) {
                way[i] = number;
            }
            wayLength += times;
            return true;
        }

        boolean hasMark(int mark) {
            for (int i = 0; i < markCount; i++) {
                if (marks[i] == mark) {
                    return true;
                }
            }
            return false;
        }

        /** Marks are kept rising, so that equal sets are equal rows. */
        void addMark(int mark) {
            int place = 0;
            while (place < markCount && marks[place] < mark) {
                place++;
            }
            boolean has = place < markCount && marks[place] == mark;
            if (has || markCount >= MARKS_MOST) {
                return;
            }
            for (int i = markCount; i > place; i--) {
                marks[i] = marks[i - 1];
            }
            marks[place] = mark;
            markCount++;
        }

        void dropMark(int mark) {
            int kept = 0;
            for (int i = 0; i < markCount; i++) {
                if (marks[i] != mark) {
                    marks[kept] = marks[i];
                    kept++;
                }
            }
            markCount = kept;
        }
    }

    /** A tie of two domains, with what each side has heard and said over it. */
    private static final class Tie {
        final int a;
        final int b;
        final int kind;
        final int[] policy;
        final Route[] heard;
        final Route[] said;
        boolean up;
        int delay;
        int gap;

        Tie(int a, int b, int kind) {
            this.a = a;
            this.b = b;
            this.kind = kind;
            up = true;
            delay = 1;
            policy = new int[] {NONE, NONE, NONE, NONE};
            heard = new Route[2 * PREFIXES_MOST];
            said = new Route[2 * PREFIXES_MOST];
            for (int i = 0; i < heard.length; i++) {
                heard[i] = new Route();
                said[i] = new Route();
            }
        }

        static int placeOf(int side, int prefix) {
            return side * PREFIXES_MOST + prefix;
        }

        int end(int side) {
            return side == 0 ? a : b;
        }

        int sideOf(int domain) {
            if (domain == a) {
                return 0;
            }
            return domain == b ? 1 : -1;
        }

        /** What the partner is to the domain at this side. */
        int partnerRole(int side) {
            if (kind == KIND_EQUALS) {
                return EQUAL;
            }
            if (kind == KIND_KIN) {
                return KIN;
            }
            return side == 0 ? CUSTOMER : PROVIDER;
        }
    }

    /** A domain: its rule, what it begins, and what it has picked. */
    private static final class Domain {
        static final int SAME_AT_ALL_STEPS = 7;

        final int[] steps;
        final int[] begun;
        final int[] pickedTie;
        final Route[] picked;
        int stepCount;
        boolean grouped;

        Domain() {
            steps = new int[6];
            goBy(12345, false);
            begun = new int[PREFIXES_MOST];
            pickedTie = new int[PREFIXES_MOST];
            picked = new Route[PREFIXES_MOST];
            for (int i = 0; i < PREFIXES_MOST; i++) {
                begun[i] = NEVER;
                pickedTie[i] = NONE;
                picked[i] = new Route();
            }
        }

        void goBy(int figures, boolean inGroups) {
            grouped = inGroups;
            stepCount = 0;
            for (int left = figures; left > 0; left /= 10) {
                stepCount++;
            }
            int left = figures;
            for (int i = stepCount - 1; i >= 0; i--) {
                steps[i] = left % 10;
                left /= 10;
            }
        }

        int firstUnlikeStep(Route x, Route y) {
            for (int i = 0; i < stepCount; i++) {
                if (compareAt(steps[i], x, y) != 0) {
                    return steps[i];
                }
            }
            return SAME_AT_ALL_STEPS;
        }

        boolean prefers(Route x, Route y) {
            for (int i = 0; i < stepCount; i++) {
                int order = compareAt(steps[i], x, y);
                if (order != 0) {
                    return order < 0;
                }
            }
            return x.partner < y.partner;
        }

        /** Below 0: x is the better one at that step. */
        static int compareAt(int step, Route x, Route y) {
            switch (step) {
                case 1:
                    return Integer.compare(y.wish, x.wish);
                case 2:
                    return Integer.compare(x.wayLength, y.wayLength);
                case 3:
                    return Integer.compare(x.origin, y.origin);
                case 4:
                    return x.sharesFirst(y) ? Integer.compare(x.cost, y.cost) : 0;
                case 5:
                    return Integer.compare(x.when, y.when);
                case 6:
                    return Integer.compare(x.cost, y.cost);
                default:
                    return 0;
            }
        }
    }

    /** Prefixes, domains, ties and rights: all that stands still while routes are told. */
    private static final class World {
        final int[] address;
        final int[] length;
        final int[] mask;
        final Domain[] domain;
        final Tie[] tie;
        final int[] ringRow;
        final int[] stepsBack;
        final int[] rightPrefix;
        final int[] rightMost;
        final int[] rightDomain;
        final int[] rightFrom;
        final int[] rightTo;
        final int[] rightKnown;
        final int[] rightStruck;
        int prefixes;
        int domains;
        int ties;
        int rights;
        int today;

        World() {
            address = new int[PREFIXES_MOST];
            length = new int[PREFIXES_MOST];
            mask = new int[PREFIXES_MOST];
            domain = new Domain[DOMAINS_MOST];
            tie = new Tie[TIES_MOST];
            ringRow = new int[DOMAINS_MOST];
            stepsBack = new int[DOMAINS_MOST];
            rightPrefix = new int[RIGHTS_MOST];
            rightMost = new int[RIGHTS_MOST];
            rightDomain = new int[RIGHTS_MOST];
            rightFrom = new int[RIGHTS_MOST];
            rightTo = new int[RIGHTS_MOST];
            rightKnown = new int[RIGHTS_MOST];
            rightStruck = new int[RIGHTS_MOST];
        }

        /** Length 0 stands apart, because a shift by 32 bits shifts by none. */
        static int maskOf(int length) {
            return length == 0 ? 0 : -1 << ADDRESS_BITS - length;
        }

        int addPrefix(int itsAddress, int itsLength) {
            address[prefixes] = itsAddress;
            length[prefixes] = itsLength;
            mask[prefixes] = maskOf(itsLength);
            prefixes++;
            return prefixes - 1;
        }

        int findPrefix(int itsAddress, int itsLength) {
            for (int p = 0; p < prefixes; p++) {
                if (address[p] == itsAddress && length[p] == itsLength) {
                    return p;
                }
            }
            return -1;
        }

        int addDomain() {
            domain[domains] = new Domain();
            domains++;
            return domains - 1;
        }

        int addTie(int a, int b, int kind) {
            tie[ties] = new Tie(a, b, kind);
            ties++;
            return ties - 1;
        }

        int tieBetween(int x, int y) {
            for (int t = 0; t < ties; t++) {
                Tie one = tie[t];
                if (one.a == x && one.b == y || one.a == y && one.b == x) {
                    return t;
                }
            }
            return -1;
        }

        int coneOf(int top) {
            int inside = 1 << top;
            for (int round = 0; round < domains; round++) {
                for (int t = 0; t < ties; t++) {
                    boolean leads = tie[t].kind == KIND_PROVIDER && (inside >> tie[t].a & 1) != 0;
                    if (leads) {
                        inside |= 1 << tie[t].b;
                    }
                }
            }
            return inside;
        }

        /** Fills the row of the ring; answers its length, 0 if there is none. */
        int findRing() {
            for (int start = 0; start < domains; start++) {
                int ringLength = shortestRing(start);
                if (ringLength > 0) {
                    fillRing(start, ringLength);
                    return ringLength;
                }
            }
            return 0;
        }

        private int shortestRing(int start) {
            int far = DOMAINS_MOST + 1;
            Arrays.fill(stepsBack, far);
            stepsBack[start] = 0;
            int shortest = far;
            for (int round = 0; round < domains; round++) {
                for (int t = 0; t < ties; t++) {
                    if (tie[t].kind != KIND_PROVIDER) {
                        continue;
                    }
                    int through = stepsBack[tie[t].b] + 1;
                    if (tie[t].a == start) {
                        shortest = Math.min(shortest, through);
                    } else {
                        stepsBack[tie[t].a] = Math.min(stepsBack[tie[t].a], through);
                    }
                }
            }
            return shortest < far ? shortest : 0;
        }

        private void fillRing(int start, int ringLength) {
            ringRow[0] = start;
            for (int i = 1; i < ringLength; i++) {
                ringRow[i] = leastCustomer(ringRow[i - 1], ringLength - i);
            }
        }

        private int leastCustomer(int provider, int steps) {
            int found = DOMAINS_MOST;
            for (int t = 0; t < ties; t++) {
                Tie one = tie[t];
                if (one.kind == KIND_PROVIDER && one.a == provider && stepsBack[one.b] == steps) {
                    found = Math.min(found, one.b);
                }
            }
            return found;
        }

        /** The place from which the first wrong step goes, or -1. */
        int firstWrongStep(int[] way, int wayLength) {
            boolean down = false;
            for (int i = 0; i + 1 < wayLength; i++) {
                int t = tieBetween(way[i], way[i + 1]);
                if (t < 0) {
                    return i;
                }
                int role = tie[t].partnerRole(tie[t].sideOf(way[i]));
                boolean upOrAcross = role == PROVIDER || role == EQUAL;
                if (down && upOrAcross) {
                    return i;
                }
                down = down || role == EQUAL || role == CUSTOMER;
            }
            return -1;
        }

        int addRight(int prefix, int most, int itsDomain, int from, int to, int known) {
            rightPrefix[rights] = prefix;
            rightMost[rights] = most;
            rightDomain[rights] = itsDomain;
            rightFrom[rights] = from;
            rightTo[rights] = to;
            rightKnown[rights] = known;
            rightStruck[rights] = NEVER;
            rights++;
            return rights - 1;
        }

        int verdictOn(int prefix, int number, int day, int knownAt) {
            int answer = 2;
            for (int r = 0; r < rights; r++) {
                boolean holds = rightFrom[r] <= day && day < rightTo[r];
                boolean isKnown = rightKnown[r] <= knownAt && (rightStruck[r] == NEVER || knownAt < rightStruck[r]);
                int above = rightPrefix[r];
                boolean covers = length[above] <= length[prefix] && (address[prefix] & mask[above]) == address[above];
                if (!holds || !isKnown || !covers) {
                    continue;
                }
                if (rightDomain[r] == number && rightMost[r] >= length[prefix]) {
                    return 1;
                }
                answer = 0;
            }
            return answer;
        }
    }

    /**
     * A policy as read: rows in one row of numbers, and its ways as sets of places.
     * Each number or any in a way is a place; a place knows which ones may come next, so that a
     * match is one walk over the route's way, whatever stands in the brackets.
     */
    private static final class Policy {
        static final int IF = 0, AND = 1, THEN = 2, NOT = 3, HELD_IN = 4, TO = 5, WAY = 6, ANY = 7;
        static final int MARK = 8, FROM = 9, TIE = 10, LENGTH = 11, WISH = 12, COST = 13, ORIGIN = 14, RIGHT = 15;
        static final int TIE_FIRST = 16, TIE_LAST = 19, VALID = 20, UNKNOWN = 21, RIGHT_LAST = 22;
        static final int LET = 23, BAR = 24, ADD = 25, DROP = 26, MORE = 27, CALL = 28;
        static final int TEST_SIZE = 5;
        static final int ACT_SIZE = 2;
        static final int HEAD_SIZE = 2;
        static final int ANY_NUMBER = -1;

        final int rows;
        final int[] code;
        final int[] places;
        final long[] next;
        final long[] first;
        final long[] last;

        Policy(int rows, int[] code, int[] places, long[] next, long[] first, long[] last) {
            this.rows = rows;
            this.code = code;
            this.places = places;
            this.next = next;
            this.first = first;
            this.last = last;
        }

        boolean tells(int way, boolean emptyToo, Route route) {
            if (route.wayLength == 0) {
                return emptyToo;
            }
            if (way < 0 || way >= first.length) {
                return false;
            }
            long open = first[way];
            long reached = 0;
            for (int i = 0; i < route.wayLength; i++) {
                reached = 0;
                long opened = 0;
                for (int k = 0; k < places.length; k++) {
                    boolean fits = places[k] == ANY_NUMBER || places[k] == route.way[i];
                    if (fits && (open >>> k & 1) != 0) {
                        reached |= 1L << k;
                        opened |= next[k];
                    }
                }
                open = opened;
            }
            return (reached & last[way]) != 0;
        }
    }

    /** Reads a policy's text; keeps the first fault. */
    private static final class Reader {
        private static final String WORDS =
            "if and then not in to way any mark from tie length wish cost origin right customer provider equal kin valid unknown bad let bar add drop more call ";
        private static final int END = -1;
        private static final int NUMBER = -2;
        private static final int NO_TOKEN = -3;
        private static final int SIGN = 1000;
        private static final int FIGURES_MOST = 9;
        private static final int ROWS_MOST = 30;
        private static final int PLACES_MOST = 40;
        private static final int BRACKETS_MOST = 6;
        private static final int CODE_MOST = 2000;
        private static final int WAYS_MOST = 250;
        private static final int NO_WORD_FAULT = 1, TOKEN_FAULT = 2, NUMBER_FAULT = 3, LIMIT_FAULT = 4;

        private final int[] token;
        private final int[] value;
        private final int[] place;
        private final int[] code;
        private final int[] places;
        private final long[] next;
        private final long[] first;
        private final long[] last;
        private int end;
        private int at;
        private int rows;
        private int codeSize;
        private int placeCount;
        private int ways;
        private int callable;
        private boolean partEmpty;
        private long partFirst;
        private long partLast;
        int fault;
        int faultPlace;

        Reader() {
            token = new int[TAPE_MOST + 1];
            value = new int[TAPE_MOST + 1];
            place = new int[TAPE_MOST + 1];
            code = new int[CODE_MOST];
            places = new int[PLACES_MOST];
            next = new long[PLACES_MOST];
            first = new long[WAYS_MOST];
            last = new long[WAYS_MOST];
        }

        void read(int[] text, int size, int policies) {
            fault = 0;
            faultPlace = 0;
            rows = 0;
            codeSize = 0;
            placeCount = 0;
            ways = 0;
            callable = policies;
            split(text, size);
            at = 0;
            for (int i = 0; i <= TAPE_MOST && token[at] != END; i++) {
                readRow();
            }
        }

        Policy result() {
            return new Policy(rows, Arrays.copyOf(code, codeSize), Arrays.copyOf(places, placeCount),
                Arrays.copyOf(next, placeCount), Arrays.copyOf(first, ways), Arrays.copyOf(last, ways));
        }

        private void split(int[] text, int size) {
            end = 0;
            int from = 0;
            while (from < size) {
                int symbol = text[from];
                int behind = from + 1;
                if (isLetter(symbol)) {
                    while (behind < size && isLetter(text[behind])) {
                        behind++;
                    }
                    putToken(wordAt(text, from, behind - from), 0, from);
                } else if (isFigure(symbol)) {
                    while (behind < size && isFigure(text[behind])) {
                        behind++;
                    }
                    putNumber(text, from, behind);
                } else if (symbol != ' ' && symbol != '\n') {
                    putToken(SIGN + symbol, 0, from);
                }
                from = behind;
            }
            token[end] = END;
            place[end] = size;
        }

        private static boolean isLetter(int symbol) {
            return symbol >= 'a' && symbol <= 'z';
        }

        private static boolean isFigure(int symbol) {
            return symbol >= '0' && symbol <= '9';
        }

        private void putNumber(int[] text, int from, int behind) {
            if (behind - from > FIGURES_MOST) {
                putToken(NO_TOKEN, 0, from);
                return;
            }
            int number = 0;
            for (int i = from; i < behind; i++) {
                number = number * 10 + text[i] - '0';
            }
            putToken(NUMBER, number, from);
        }

        private void putToken(int kind, int number, int from) {
            if (end < TAPE_MOST) {
                token[end] = kind;
                value[end] = number;
                place[end] = from;
                end++;
            }
        }

        private static int wordAt(int[] text, int from, int length) {
            int word = 0;
            int begin = 0;
            boolean same = true;
            for (int i = 0; i < WORDS.length(); i++) {
                char symbol = WORDS.charAt(i);
                if (symbol != ' ') {
                    same = same && i - begin < length && text[from + i - begin] == symbol;
                    continue;
                }
                if (same && i - begin == length) {
                    return word;
                }
                word++;
                begin = i + 1;
                same = true;
            }
            return NO_TOKEN;
        }

        /** Moves to the end, so that all that still reads stops there. */
        private void fail(int kind) {
            if (fault == 0) {
                fault = token[at] == NO_TOKEN ? NO_WORD_FAULT : kind;
                faultPlace = place[at];
            }
            at = end;
        }

        private void step() {
            if (at < end) {
                at++;
            }
        }

        private boolean take(int kind) {
            if (token[at] != kind) {
                return false;
            }
            step();
            return true;
        }

        private void expect(int kind) {
            if (!take(kind)) {
                fail(TOKEN_FAULT);
            }
        }

        private int number(int from, int to) {
            if (token[at] != NUMBER) {
                fail(TOKEN_FAULT);
                return 0;
            }
            int number = value[at];
            if (number < from || number > to) {
                fail(NUMBER_FAULT);
                return 0;
            }
            step();
            return number;
        }

        private void readRow() {
            if (token[at] != Policy.IF && !isAct(token[at])) {
                fail(TOKEN_FAULT);
                return;
            }
            if (rows >= ROWS_MOST) {
                fail(LIMIT_FAULT);
                return;
            }
            rows++;
            int head = codeSize;
            put(0);
            put(0);
            boolean conditional = take(Policy.IF);
            boolean another = conditional;
            for (int i = 0; i < TAPE_MOST && another; i++) {
                readTest();
                code[head]++;
                another = take(Policy.AND);
            }
            if (conditional) {
                expect(Policy.THEN);
            }
            another = true;
            for (int i = 0; i < TAPE_MOST && another; i++) {
                readAct();
                code[head + 1]++;
                another = take(SIGN + ',');
            }
            expect(SIGN + ';');
        }

        private static boolean isAct(int kind) {
            return kind == Policy.WISH || kind == Policy.COST || kind >= Policy.LET && kind <= Policy.CALL;
        }

        private void readAct() {
            int act = token[at];
            if (!isAct(act)) {
                fail(TOKEN_FAULT);
                return;
            }
            step();
            put(act);
            switch (act) {
                case Policy.ADD:
                case Policy.DROP:
                    put(number(0, MARK_MOST));
                    break;
                case Policy.WISH:
                    put(number(0, WISH_MOST));
                    break;
                case Policy.COST:
                    put(number(0, COST_MOST));
                    break;
                case Policy.MORE:
                    put(number(1, 9));
                    break;
                case Policy.CALL:
                    put(number(0, callable - 1));
                    break;
                default:
                    put(0);
                    break;
            }
        }

        private void readTest() {
            int turned = 0;
            for (int i = 0; i < TAPE_MOST && take(Policy.NOT); i++) {
                turned = 1 - turned;
            }
            int test = token[at];
            if (!isTest(test)) {
                fail(TOKEN_FAULT);
                return;
            }
            step();
            switch (test) {
                case Policy.HELD_IN:
                    readHeldIn(turned);
                    break;
                case Policy.WAY:
                    readWay(turned);
                    break;
                case Policy.MARK:
                    putTest(test, turned, number(0, MARK_MOST), 0, 0);
                    break;
                case Policy.FROM:
                    putTest(test, turned, number(0, DOMAINS_MOST - 1), 0, 0);
                    break;
                case Policy.ORIGIN:
                    putTest(test, turned, number(0, ORIGIN_MOST), 0, 0);
                    break;
                case Policy.TIE:
                    putTest(test, turned, oneOf(Policy.TIE_FIRST, Policy.TIE_LAST) - Policy.TIE_FIRST, 0, 0);
                    break;
                case Policy.RIGHT:
                    putTest(test, turned, verdictOf(oneOf(Policy.VALID, Policy.RIGHT_LAST)), 0, 0);
                    break;
                case Policy.WISH:
                    putTest(test, turned, relation(), number(0, WISH_MOST), 0);
                    break;
                default:
                    putTest(test, turned, relation(), number(0, COST_MOST), 0);
                    break;
            }
        }

        private static boolean isTest(int kind) {
            return kind == Policy.HELD_IN || kind == Policy.WAY || kind >= Policy.MARK && kind <= Policy.RIGHT;
        }

        private int oneOf(int from, int to) {
            int word = token[at];
            if (word < from || word > to) {
                fail(TOKEN_FAULT);
                return from;
            }
            step();
            return word;
        }

        private static int verdictOf(int word) {
            if (word == Policy.VALID) {
                return 1;
            }
            return word == Policy.UNKNOWN ? 2 : 0;
        }

        /** As Integer.compare tells it, one higher: below 0, alike 1, above 2. */
        private int relation() {
            int sign = token[at];
            if (sign != SIGN + '<' && sign != SIGN + '=' && sign != SIGN + '>') {
                fail(TOKEN_FAULT);
                return 0;
            }
            step();
            return sign - SIGN - '<';
        }

        private void readHeldIn(int turned) {
            int address = number(0, 255);
            for (int i = 0; i < 3; i++) {
                expect(SIGN + '.');
                address = address << 8 | number(0, 255);
            }
            expect(SIGN + '/');
            boolean isLength = token[at] == NUMBER && value[at] <= ADDRESS_BITS;
            if (isLength && (address & ~World.maskOf(value[at])) != 0) {
                fail(NUMBER_FAULT);
            }
            int length = number(0, ADDRESS_BITS);
            int most = take(Policy.TO) ? number(length, ADDRESS_BITS) : ADDRESS_BITS;
            putTest(Policy.HELD_IN, turned, address, length, most);
        }

        private void readWay(int turned) {
            expect(SIGN + '(');
            readBranches(1);
            expect(SIGN + ')');
            if (ways < WAYS_MOST) {
                first[ways] = partFirst;
                last[ways] = partLast;
                putTest(Policy.WAY, turned, ways, partEmpty ? 1 : 0, 0);
                ways++;
            }
        }

        /** Leaves what it read in the part's fields: whether it may be empty, its first and last places. */
        private void readBranches(int depth) {
            boolean empty = false;
            long firsts = 0;
            long lasts = 0;
            boolean another = true;
            for (int i = 0; i <= TAPE_MOST && another; i++) {
                boolean rowEmpty = true;
                long rowFirsts = 0;
                long rowLasts = 0;
                for (int k = 0; k <= TAPE_MOST && beginsPiece(token[at]); k++) {
                    if (token[at] == SIGN + '(') {
                        readGroup(depth);
                    } else {
                        readPlace();
                    }
                    readRepeat();
                    join(rowLasts, partFirst);
                    rowFirsts = rowEmpty ? rowFirsts | partFirst : rowFirsts;
                    rowLasts = partEmpty ? rowLasts | partLast : partLast;
                    rowEmpty = rowEmpty && partEmpty;
                }
                empty = empty || rowEmpty;
                firsts |= rowFirsts;
                lasts |= rowLasts;
                another = take(SIGN + '|');
            }
            partEmpty = empty;
            partFirst = firsts;
            partLast = lasts;
        }

        private static boolean beginsPiece(int kind) {
            return kind == NUMBER || kind == Policy.ANY || kind == SIGN + '(';
        }

        private void readGroup(int depth) {
            if (depth >= BRACKETS_MOST) {
                fail(LIMIT_FAULT);
                return;
            }
            step();
            readBranches(depth + 1);
            if (token[at] != SIGN + ')') {
                fail(TOKEN_FAULT);
                return;
            }
            step();
        }

        private void readPlace() {
            boolean isNumber = token[at] == NUMBER;
            if (isNumber && value[at] > COST_MOST) {
                fail(NUMBER_FAULT);
                return;
            }
            if (placeCount >= PLACES_MOST) {
                fail(LIMIT_FAULT);
                return;
            }
            places[placeCount] = isNumber ? value[at] : Policy.ANY_NUMBER;
            next[placeCount] = 0;
            partEmpty = false;
            partFirst = 1L << placeCount;
            partLast = partFirst;
            placeCount++;
            step();
        }

        private void readRepeat() {
            boolean star = token[at] == SIGN + '*';
            boolean plus = token[at] == SIGN + '+';
            boolean maybe = token[at] == SIGN + '?';
            if (star || plus) {
                join(partLast, partFirst);
            }
            if (star || plus || maybe) {
                step();
            }
            partEmpty = partEmpty || star || maybe;
        }

        private void join(long before, long behind) {
            for (int k = 0; k < placeCount; k++) {
                if ((before >>> k & 1) != 0) {
                    next[k] |= behind;
                }
            }
        }

        private void putTest(int test, int turned, int a, int b, int c) {
            put(test);
            put(turned);
            put(a);
            put(b);
            put(c);
        }

        private void put(int number) {
            if (codeSize < CODE_MOST) {
                code[codeSize] = number;
                codeSize++;
            }
        }
    }

    /** Keeps the policies and goes through them for a route. */
    private static final class Judge {
        private static final int OPEN = 0, LET = 1, BARRED = 2;
        private static final int ACTS_MOST = 500;

        private final World world;
        private final Policy[] texts;
        private Route route;
        private int domain;
        private int partner;
        private int role;
        private int acts;
        private int ending;
        int policies;

        Judge(World world) {
            this.world = world;
            texts = new Policy[POLICIES_MOST];
        }

        int addPolicy(Policy policy) {
            texts[policies] = policy;
            policies++;
            return policies - 1;
        }

        /** Changes the route as the acts tell; without such a policy all are let. */
        boolean lets(int policy, Route judged, Tie tie, int side) {
            if (policy < 0 || policy >= policies) {
                return true;
            }
            route = judged;
            domain = tie.end(side);
            partner = tie.end(1 - side);
            role = tie.partnerRole(side);
            acts = 0;
            ending = OPEN;
            goThrough(policy, 0);
            return ending != BARRED;
        }

        /** A policy calls only older ones, so that the depth stays below their number. */
        private void goThrough(int policy, int depth) {
            if (policy < 0 || policy >= policies || depth > POLICIES_MOST) {
                return;
            }
            Policy text = texts[policy];
            int at = 0;
            for (int row = 0; row < text.rows && ending == OPEN; row++) {
                int tests = text.code[at];
                int rowActs = text.code[at + 1];
                int act = at + Policy.HEAD_SIZE + tests * Policy.TEST_SIZE;
                boolean so = true;
                for (int i = at + Policy.HEAD_SIZE; i < act && so; i += Policy.TEST_SIZE) {
                    so = isSo(text, i) != (text.code[i + 1] == 1);
                }
                if (so) {
                    doActs(text.code, act, rowActs, depth);
                }
                at = act + rowActs * Policy.ACT_SIZE;
            }
        }

        private boolean isSo(Policy text, int at) {
            int a = text.code[at + 2];
            int b = text.code[at + 3];
            int c = text.code[at + 4];
            switch (text.code[at]) {
                case Policy.HELD_IN:
                    int length = world.length[route.prefix];
                    return length >= b && length <= c && (world.address[route.prefix] & World.maskOf(b)) == a;
                case Policy.WAY:
                    return text.tells(a, b == 1, route);
                case Policy.MARK:
                    return route.hasMark(a);
                case Policy.FROM:
                    return partner == a;
                case Policy.TIE:
                    return role == a;
                case Policy.LENGTH:
                    return Integer.compare(route.wayLength, b) + 1 == a;
                case Policy.WISH:
                    return Integer.compare(route.wish, b) + 1 == a;
                case Policy.COST:
                    return Integer.compare(route.cost, b) + 1 == a;
                case Policy.ORIGIN:
                    return route.origin == a;
                case Policy.RIGHT:
                    int beginner = route.wayLength > 0 ? route.way[route.wayLength - 1] : domain;
                    return world.verdictOn(route.prefix, beginner, world.today, world.today) == a;
                default:
                    return false;
            }
        }

        private void doActs(int[] code, int from, int count, int depth) {
            for (int i = 0; i < count && ending == OPEN; i++) {
                int number = code[from + i * Policy.ACT_SIZE + 1];
                if (acts >= ACTS_MOST) {
                    ending = BARRED;
                    return;
                }
                acts++;
                switch (code[from + i * Policy.ACT_SIZE]) {
                    case Policy.LET:
                        ending = LET;
                        break;
                    case Policy.BAR:
                        ending = BARRED;
                        break;
                    case Policy.ADD:
                        route.addMark(number);
                        break;
                    case Policy.DROP:
                        route.dropMark(number);
                        break;
                    case Policy.WISH:
                        route.wish = number;
                        break;
                    case Policy.COST:
                        route.cost = number;
                        break;
                    case Policy.MORE:
                        if (route.wayLength > 0 && !route.putInFront(route.way[0], number)) {
                            ending = BARRED;
                        }
                        break;
                    case Policy.CALL:
                        goThrough(number, depth + 1);
                        break;
                    default:
                        break;
                }
            }
        }
    }

    /** Routes in time: looking, saying, and the events that are to come. */
    private static final class Talk {
        private static final int ARRIVAL = 0;
        private static final int WAIT = 1;
        private static final int SLOTS = TIES_MOST * 2 * PREFIXES_MOST * 2;
        private static final int OWN_IS_PICKED = 8, OWN_NUMBER = 9, IS_BARRED = 10;

        private final World world;
        private final Judge court;
        private final int[] queue;
        private final int[] momentOf;
        private final Route[] candidate;
        private final int[] winner;
        private final Route own;
        private final Route nothing;
        private final Route outgoing;
        private int candidates;
        int queued;
        int clock;
        int done;

        Talk(World world, Judge court) {
            this.world = world;
            this.court = court;
            queue = new int[SLOTS];
            momentOf = new int[SLOTS];
            Arrays.fill(momentOf, NEVER);
            candidate = new Route[DOMAINS_MOST];
            for (int i = 0; i < DOMAINS_MOST; i++) {
                candidate[i] = new Route();
            }
            winner = new int[DOMAINS_MOST];
            own = new Route();
            nothing = new Route();
            outgoing = new Route();
        }

        /**
         * An event is a slot: a route's arrival, or the end of a wait, of a tie, side and prefix.
         * Of each there is one at most, and what arrives is just what was said last.
         */
        private static int slotOf(int tie, int side, int prefix, int kind) {
            return ((tie * 2 + side) * PREFIXES_MOST + prefix) * 2 + kind;
        }

        private void schedule(int slot, int moment) {
            if (queued >= SLOTS) {
                return;
            }
            int place = queued;
            while (place > 0 && momentOf[queue[place - 1]] > moment) {
                place--;
            }
            System.arraycopy(queue, place, queue, place + 1, queued - place);
            queue[place] = slot;
            momentOf[slot] = moment;
            queued++;
        }

        private void cancel(int slot) {
            if (momentOf[slot] == NEVER) {
                return;
            }
            momentOf[slot] = NEVER;
            int place = 0;
            while (place < queued && queue[place] != slot) {
                place++;
            }
            if (place < queued) {
                queued--;
                System.arraycopy(queue, place + 1, queue, place, queued - place);
            }
        }

        boolean doNext(int lastMoment) {
            if (queued == 0 || momentOf[queue[0]] > lastMoment) {
                return false;
            }
            int slot = queue[0];
            clock = momentOf[slot];
            cancel(slot);
            done++;
            int prefix = slot / 2 % PREFIXES_MOST;
            int side = slot / 2 / PREFIXES_MOST % 2;
            int tie = slot / 2 / PREFIXES_MOST / 2;
            if (slot % 2 == WAIT) {
                say(tie, side, prefix);
            } else {
                handOver(world.tie[tie], side, prefix);
                look(world.tie[tie].end(1 - side), prefix);
            }
            return true;
        }

        void passTo(int moment) {
            if (queued == 0 || momentOf[queue[0]] > moment) {
                clock = moment;
            }
        }

        private void handOver(Tie over, int side, int prefix) {
            Route heard = over.heard[Tie.placeOf(1 - side, prefix)];
            heard.become(over.said[Tie.placeOf(side, prefix)]);
            heard.when = clock;
        }

        int takeIn(Message mail, int tie, int side) {
            Tie over = world.tie[tie];
            int all = mail.withdrawn + mail.announced;
            int taken = 0;
            for (int i = 0; i < all; i++) {
                int prefix = world.findPrefix(mail.address[i], mail.length[i]);
                if (prefix < 0) {
                    continue;
                }
                Route heard = over.heard[Tie.placeOf(side, prefix)];
                heard.become(i < mail.withdrawn ? nothing : mail.route);
                heard.prefix = prefix;
                heard.when = clock;
                look(over.end(side), prefix);
                taken++;
            }
            return taken;
        }

        void silence(int tie) {
            Tie fallen = world.tie[tie];
            fallen.up = false;
            for (int i = 0; i < 2 * PREFIXES_MOST; i++) {
                fallen.heard[i].vanish();
                fallen.said[i].vanish();
            }
            int firstSlot = slotOf(tie, 0, 0, ARRIVAL);
            int behindSlot = slotOf(tie + 1, 0, 0, ARRIVAL);
            for (int slot = firstSlot; slot < behindSlot; slot++) {
                cancel(slot);
            }
        }

        void tellAllAnew() {
            for (int d = 0; d < world.domains; d++) {
                for (int p = 0; p < world.prefixes; p++) {
                    look(d, p);
                }
            }
            for (int d = 0; d < world.domains; d++) {
                for (int t = 0; t < world.ties; t++) {
                    int side = world.tie[t].sideOf(d);
                    if (side >= 0) {
                        sayAll(t, side);
                    }
                }
            }
        }

        void lookAtAll(int domain) {
            for (int p = 0; p < world.prefixes; p++) {
                look(domain, p);
            }
        }

        void sayAll(int tie, int side) {
            for (int p = 0; p < world.prefixes; p++) {
                say(tie, side, p);
            }
        }

        void look(int domain, int prefix) {
            Domain me = world.domain[domain];
            Route best = nothing;
            int tie = NONE;
            if (me.begun[prefix] != NEVER) {
                own.begin(prefix, me.begun[prefix]);
                best = own;
                tie = OWN;
            } else {
                gather(domain, prefix);
                int i = me.grouped ? pickGrouped(me) : pickPlain(me);
                if (i >= 0) {
                    best = candidate[i];
                    tie = best.tie;
                }
            }
            if (tie == me.pickedTie[prefix] && best.isAlike(me.picked[prefix])) {
                return;
            }
            me.pickedTie[prefix] = tie;
            me.picked[prefix].become(best);
            for (int t = 0; t < world.ties; t++) {
                int side = world.tie[t].sideOf(domain);
                if (side >= 0) {
                    say(t, side, prefix);
                }
            }
        }

        private void gather(int domain, int prefix) {
            candidates = 0;
            for (int t = 0; t < world.ties; t++) {
                Tie over = world.tie[t];
                int side = over.sideOf(domain);
                if (side < 0 || !over.up || candidates >= DOMAINS_MOST) {
                    continue;
                }
                Route heard = over.heard[Tie.placeOf(side, prefix)];
                if (!heard.there || heard.passes(domain)) {
                    continue;
                }
                Route taken = candidate[candidates];
                taken.become(heard);
                taken.when = heard.when;
                taken.tie = t;
                taken.partner = over.end(1 - side);
                if (court.lets(over.policy[side * 2 + IN], taken, over, side)) {
                    candidates++;
                }
            }
        }

        private int pickPlain(Domain me) {
            for (int i = 0; i < candidates; i++) {
                winner[i] = i;
            }
            return lastStanding(me, candidates);
        }

        private int pickGrouped(Domain me) {
            int groups = 0;
            for (int i = 0; i < candidates; i++) {
                if (isFirstOfGroup(i)) {
                    insertWinner(groups, bestOfGroup(me, i));
                    groups++;
                }
            }
            return lastStanding(me, groups);
        }

        private int lastStanding(Domain me, int count) {
            int best = count > 0 ? winner[0] : -1;
            for (int i = 1; i < count; i++) {
                if (me.prefers(candidate[winner[i]], candidate[best])) {
                    best = winner[i];
                }
            }
            return best;
        }

        private boolean isFirstOfGroup(int i) {
            for (int k = 0; k < i; k++) {
                if (candidate[k].sharesFirst(candidate[i])) {
                    return false;
                }
            }
            return true;
        }

        private int bestOfGroup(Domain me, int first) {
            int best = first;
            for (int i = first + 1; i < candidates; i++) {
                if (candidate[i].sharesFirst(candidate[first]) && me.prefers(candidate[i], candidate[best])) {
                    best = i;
                }
            }
            return best;
        }

        private void insertWinner(int count, int i) {
            int place = count;
            while (place > 0 && groupOrder(winner[place - 1]) > groupOrder(i)) {
                winner[place] = winner[place - 1];
                place--;
            }
            winner[place] = i;
        }

        /** First numbers as numbers without sign; an empty way ahead of them all. */
        private long groupOrder(int i) {
            return candidate[i].wayLength == 0 ? -1 : candidate[i].way[0] & 0xFFFFFFFFL;
        }

        private void say(int tie, int side, int prefix) {
            Tie over = world.tie[tie];
            if (!over.up) {
                return;
            }
            compose(over, tie, side, prefix);
            if (outgoing.there && !court.lets(over.policy[side * 2 + OUT], outgoing, over, side)) {
                outgoing.there = false;
            }
            outgoing.wish = WISH_AT_FIRST;
            Route said = over.said[Tie.placeOf(side, prefix)];
            if (outgoing.isAlike(said)) {
                return;
            }
            if (said.when != NEVER && clock < said.when + over.gap) {
                int wait = slotOf(tie, side, prefix, WAIT);
                if (momentOf[wait] == NEVER) {
                    schedule(wait, said.when + over.gap);
                }
                return;
            }
            said.become(outgoing);
            said.when = clock;
            int arrival = slotOf(tie, side, prefix, ARRIVAL);
            cancel(arrival);
            schedule(arrival, clock + over.delay);
        }

        private void compose(Tie over, int tie, int side, int prefix) {
            int domain = over.end(side);
            Domain me = world.domain[domain];
            outgoing.become(me.picked[prefix]);
            outgoing.wish = WISH_AT_FIRST;
            if (me.pickedTie[prefix] == tie || !outgoing.putInFront(domain, 1)) {
                outgoing.there = false;
            }
        }

        int reason(int tie, int side, int prefix) {
            Tie over = world.tie[tie];
            Route heard = over.heard[Tie.placeOf(side, prefix)];
            int domain = over.end(side);
            Domain me = world.domain[domain];
            if (!heard.there) {
                return NONE;
            }
            if (me.begun[prefix] != NEVER) {
                return OWN_IS_PICKED;
            }
            if (heard.passes(domain)) {
                return OWN_NUMBER;
            }
            gather(domain, prefix);
            int asked = candidateOver(tie);
            int best = candidateOver(me.pickedTie[prefix]);
            if (asked < 0) {
                return IS_BARRED;
            }
            if (asked == best || best < 0) {
                return 0;
            }
            return me.firstUnlikeStep(candidate[asked], candidate[best]);
        }

        private int candidateOver(int tie) {
            for (int i = 0; i < candidates; i++) {
                if (candidate[i].tie == tie) {
                    return i;
                }
            }
            return -1;
        }

        /** The tie at place k of the first three that beat one another round. */
        int threeInRing(int domain, int prefix, int k) {
            Domain me = world.domain[domain];
            if (me.begun[prefix] != NEVER) {
                return NONE;
            }
            gather(domain, prefix);
            for (int x = 0; x < candidates; x++) {
                for (int y = 0; y < candidates; y++) {
                    if (!me.prefers(candidate[x], candidate[y])) {
                        continue;
                    }
                    for (int z = 0; z < candidates; z++) {
                        if (me.prefers(candidate[y], candidate[z]) && me.prefers(candidate[z], candidate[x])) {
                            int found = k == 0 ? x : k == 1 ? y : z;
                            return candidate[found].tie;
                        }
                    }
                }
            }
            return NONE;
        }
    }

    /** The latest message as it was read, and the one written latest. */
    private static final class Message {
        private static final int CLOSE = 1, WITHDRAW = 2, DROP = 3;
        private static final int ORIGIN = 1, WAY = 2, COST = 4, MARKS = 8;
        private static final int LONG_SIZE = 16, TOLD_FLAGS = 207;
        private static final int WELL_KNOWN = 64, OPTIONAL = 128, CARRIED = 192;
        private static final int TYPES = 256;
        private static final int ASKED_MOST = 100;
        private static final int WRITTEN_MOST = 256;

        private final int[] seen;
        private final int[] carried;
        private final int[] marks;
        private final int[] faultPlace;
        private int[] octets;
        private int carriedCount;
        private int markCount;
        private boolean hasOrigin;
        private boolean hasWay;
        final Route route;
        final int[] address;
        final int[] length;
        final int[] written;
        int withdrawn;
        int announced;
        int writtenSize;
        boolean taken;

        Message() {
            seen = new int[TYPES];
            carried = new int[TYPES];
            marks = new int[MARKS_MOST];
            faultPlace = new int[] {NONE, NONE, NONE, NONE};
            route = new Route();
            address = new int[TAPE_MOST];
            length = new int[TAPE_MOST];
            written = new int[WRITTEN_MOST];
        }

        /** Answers the least kind of its faults. */
        int read(int[] tape, int size) {
            octets = tape;
            forget();
            readParts(size);
            if (faultPlace[CLOSE] != NONE) {
                return CLOSE;
            }
            taken = true;
            route.markCount = 0;
            for (int i = 0; i < markCount; i++) {
                route.addMark(marks[i]);
            }
            if (faultPlace[WITHDRAW] != NONE) {
                withdrawn += announced;
                announced = 0;
                return WITHDRAW;
            }
            return faultPlace[DROP] != NONE ? DROP : 0;
        }

        private void forget() {
            Arrays.fill(faultPlace, NONE);
            Arrays.fill(seen, 0);
            route.begin(0, 0);
            carriedCount = 0;
            markCount = 0;
            hasOrigin = false;
            hasWay = false;
            withdrawn = 0;
            announced = 0;
            taken = false;
        }

        private void readParts(int size) {
            int attributes = 2;
            if (size >= 2) {
                attributes += pairAt(0);
            }
            if (attributes > size) {
                note(CLOSE, 0);
                return;
            }
            withdrawn = readPrefixes(2, attributes, 0);
            int behind = attributes + 2;
            if (behind <= size) {
                behind += pairAt(attributes);
            }
            if (behind > size) {
                note(CLOSE, attributes);
                return;
            }
            readAttributes(attributes + 2, behind);
            announced = readPrefixes(behind, size, withdrawn);
            if (announced > 0 && !(hasOrigin && hasWay)) {
                note(WITHDRAW, behind);
            }
        }

        private void note(int kind, int place) {
            if (faultPlace[kind] == NONE) {
                faultPlace[kind] = place;
            }
        }

        private int pairAt(int at) {
            return octets[at] << 8 | octets[at + 1];
        }

        private int fourAt(int at) {
            return pairAt(at) << 16 | pairAt(at + 2);
        }

        private int readPrefixes(int from, int end, int stored) {
            int at = from;
            int count = 0;
            while (at < end) {
                int bits = octets[at];
                int bytes = (bits + 7) / 8;
                if (bits > ADDRESS_BITS || at + 1 + bytes > end || stored + count >= TAPE_MOST) {
                    note(CLOSE, at);
                    return count;
                }
                int read = 0;
                for (int i = 0; i < bytes; i++) {
                    read |= octets[at + 1 + i] << 24 - 8 * i;
                }
                address[stored + count] = read & World.maskOf(bits);
                length[stored + count] = bits;
                count++;
                at += 1 + bytes;
            }
            return count;
        }

        private void readAttributes(int from, int end) {
            int at = from;
            while (at < end) {
                boolean longSize = (octets[at] & LONG_SIZE) != 0;
                int body = at + (longSize ? 4 : 3);
                if (body > end) {
                    note(WITHDRAW, at);
                    return;
                }
                int size = longSize ? pairAt(at + 2) : octets[at + 2];
                if (body + size > end) {
                    note(WITHDRAW, at);
                    return;
                }
                readAttribute(at, body, size);
                at = body + size;
            }
        }

        private void readAttribute(int at, int body, int size) {
            int flags = octets[at];
            int told = flags & TOLD_FLAGS;
            int type = octets[at + 1];
            if (seen[type] != 0) {
                note(DROP, at);
                return;
            }
            seen[type] = 1;
            boolean isRight;
            switch (type) {
                case ORIGIN:
                    hasOrigin = told == WELL_KNOWN && readOrigin(body, size);
                    isRight = hasOrigin;
                    break;
                case WAY:
                    hasWay = told == WELL_KNOWN && readWay(body, size);
                    isRight = hasWay;
                    break;
                case COST:
                    isRight = told == OPTIONAL && readCost(body, size);
                    break;
                case MARKS:
                    isRight = told == CARRIED && readMarks(body, size);
                    break;
                default:
                    isRight = (flags & OPTIONAL) != 0;
                    carry(flags, type);
                    break;
            }
            if (!isRight) {
                note(WITHDRAW, at);
            }
        }

        private void carry(int flags, int type) {
            if ((flags & CARRIED) == CARRIED) {
                carried[carriedCount] = type;
                carriedCount++;
            }
        }

        private boolean readOrigin(int body, int size) {
            if (size != 1 || octets[body] > ORIGIN_MOST) {
                return false;
            }
            route.origin = octets[body];
            return true;
        }

        private boolean readCost(int body, int size) {
            if (size != 4) {
                return false;
            }
            int cost = fourAt(body);
            route.cost = cost < 0 || cost > COST_MOST ? COST_MOST : cost;
            return true;
        }

        private boolean readMarks(int body, int size) {
            if (size % 4 != 0) {
                return false;
            }
            for (int at = body; at < body + size; at += 4) {
                keepMark(pairAt(at + 2));
            }
            return true;
        }

        private void keepMark(int mark) {
            for (int i = 0; i < markCount; i++) {
                if (marks[i] == mark) {
                    return;
                }
            }
            if (markCount < MARKS_MOST) {
                marks[markCount] = mark;
                markCount++;
            }
        }

        /** A way with a fault is as if there were none: its length stays 0. */
        private boolean readWay(int body, int size) {
            int end = body + size;
            int at = body;
            int numbers = 0;
            while (at < end) {
                if (at + 2 > end) {
                    return false;
                }
                int segment = octets[at];
                int count = octets[at + 1];
                if (segment < 1 || segment > 2 || count < 1) {
                    return false;
                }
                if (at + 2 + 4 * count > end || numbers + count > WAY_MOST) {
                    return false;
                }
                for (int i = 0; i < count; i++) {
                    route.way[numbers + i] = fourAt(at + 2 + 4 * i);
                }
                if (segment == 1) {
                    sortWithoutSign(route.way, numbers, numbers + count);
                }
                numbers += count;
                at += 2 + 4 * count;
            }
            route.wayLength = numbers;
            return true;
        }

        /** Turning the highest bit makes the order with sign that without it. */
        private static void sortWithoutSign(int[] row, int from, int to) {
            for (int i = from + 1; i < to; i++) {
                int number = row[i];
                int place = i;
                while (place > from && (row[place - 1] ^ Integer.MIN_VALUE) > (number ^ Integer.MIN_VALUE)) {
                    row[place] = row[place - 1];
                    place--;
                }
                row[place] = number;
            }
        }

        int told(int what) {
            if (what == 0) {
                return placeTold();
            }
            if (!taken || what < 0) {
                return NONE;
            }
            return what < 100 ? toldInAll(what) : toldOfRow(what);
        }

        private int placeTold() {
            for (int kind = CLOSE; kind <= DROP; kind++) {
                if (faultPlace[kind] != NONE) {
                    return faultPlace[kind];
                }
            }
            return NONE;
        }

        private int toldInAll(int what) {
            switch (what) {
                case 1:
                    return withdrawn;
                case 2:
                    return announced;
                case 3:
                    return carriedCount;
                case 4:
                    return route.origin;
                case 5:
                    return route.cost;
                case 6:
                    return route.wayLength;
                case 7:
                    return markCount;
                default:
                    return NONE;
            }
        }

        private int toldOfRow(int what) {
            int i = what % ASKED_MOST;
            switch (what / ASKED_MOST) {
                case 1:
                    return i < withdrawn ? address[i] : NONE;
                case 2:
                    return i < withdrawn ? length[i] : NONE;
                case 3:
                    return i < announced ? address[withdrawn + i] : NONE;
                case 4:
                    return i < announced ? length[withdrawn + i] : NONE;
                case 5:
                    return i < route.wayLength ? route.way[i] : NONE;
                case 6:
                    return i < markCount ? marks[i] : NONE;
                default:
                    return what - 700 < carriedCount ? carried[what - 700] : NONE;
            }
        }

        int putDown(Route said, int itsAddress, int itsLength) {
            writtenSize = 0;
            int prefixSize = 1 + (itsLength + 7) / 8;
            if (!said.there) {
                putNumber(prefixSize, 2);
                putPrefix(itsAddress, itsLength);
                putNumber(0, 2);
                return writtenSize;
            }
            putNumber(0, 4);
            putAttributes(said);
            int size = writtenSize - 4;
            written[2] = size >> 8;
            written[3] = size & 255;
            putPrefix(itsAddress, itsLength);
            return writtenSize;
        }

        private void putAttributes(Route said) {
            putHead(WELL_KNOWN, ORIGIN, 1);
            putNumber(said.origin, 1);
            putHead(WELL_KNOWN, WAY, 2 + 4 * said.wayLength);
            putNumber(2, 1);
            putNumber(said.wayLength, 1);
            for (int i = 0; i < said.wayLength; i++) {
                putNumber(said.way[i], 4);
            }
            if (said.cost != 0) {
                putHead(OPTIONAL, COST, 4);
                putNumber(said.cost, 4);
            }
            if (said.markCount > 0) {
                putHead(CARRIED, MARKS, 4 * said.markCount);
            }
            for (int i = 0; i < said.markCount; i++) {
                putNumber(said.marks[i], 4);
            }
        }

        private void putHead(int flags, int type, int size) {
            putNumber(flags, 1);
            putNumber(type, 1);
            putNumber(size, 1);
        }

        private void putPrefix(int itsAddress, int itsLength) {
            putNumber(itsLength, 1);
            int bytes = (itsLength + 7) / 8;
            for (int i = 0; i < bytes; i++) {
                putNumber(itsAddress >>> 24 - 8 * i, 1);
            }
        }

        private void putNumber(int number, int bytes) {
            for (int i = bytes - 1; i >= 0 && writtenSize < WRITTEN_MOST; i--) {
                written[writtenSize] = number >>> 8 * i & 255;
                writtenSize++;
            }
        }
    }

    /** Letters by the longest prefix, their loads, and the least tables. */
    private static final class Letters {
        private static final int ARRIVES = 0, NOWHERE = 1, RINGS = 2;
        private static final int OWN_BIT = 1 << TIES_MOST;
        private static final int NOWHERE_BIT = 1 << TIES_MOST + 1;

        private final World world;
        private final int[] stops;
        private final int[] demandFrom;
        private final int[] demandAddress;
        private final int[] demandUnits;
        private final long[] border;
        private int stopCount;
        private int entries;
        final int[] ledTo;
        int ledCount;
        int demands;

        Letters(World world) {
            this.world = world;
            stops = new int[DOMAINS_MOST + 1];
            ledTo = new int[DOMAINS_MOST + 1];
            demandFrom = new int[DEMANDS_MOST];
            demandAddress = new int[DEMANDS_MOST];
            demandUnits = new int[DEMANDS_MOST];
            border = new long[2 * PREFIXES_MOST];
        }

        /** The tie over which a domain sends, or OWN, or NONE for nowhere. */
        private int tieFor(int domain, int address) {
            Domain sender = world.domain[domain];
            int longest = -1;
            int tie = NONE;
            for (int p = 0; p < world.prefixes; p++) {
                boolean holds = (address & world.mask[p]) == world.address[p];
                if (holds && sender.pickedTie[p] != NONE && world.length[p] > longest) {
                    longest = world.length[p];
                    tie = sender.pickedTie[p];
                }
            }
            return tie;
        }

        /** The partner to which a domain sends, or OWN, or NONE for nowhere. */
        private int partnerFor(int domain, int address) {
            int tie = tieFor(domain, address);
            if (tie < 0) {
                return tie;
            }
            Tie over = world.tie[tie];
            return over.end(1 - over.sideOf(domain));
        }

        private int travel(int domain, int address) {
            stops[0] = domain;
            stopCount = 1;
            int met = 1 << domain;
            for (int i = 0; i < DOMAINS_MOST; i++) {
                int next = partnerFor(stops[i], address);
                if (next < 0) {
                    return next == OWN ? ARRIVES : NOWHERE;
                }
                stops[stopCount] = next;
                stopCount++;
                if ((met >> next & 1) != 0) {
                    return RINGS;
                }
                met |= 1 << next;
            }
            return RINGS;
        }

        int send(int domain, int address) {
            int outcome = travel(domain, address);
            System.arraycopy(stops, 0, ledTo, 0, stopCount);
            ledCount = stopCount;
            return outcome;
        }

        int addDemand(int from, int address, int units) {
            demandFrom[demands] = from;
            demandAddress[demands] = address;
            demandUnits[demands] = units;
            demands++;
            return demands - 1;
        }

        int unitsOver(int from, int to) {
            int sum = 0;
            for (int i = 0; i < demands; i++) {
                travel(demandFrom[i], demandAddress[i]);
                for (int k = 0; k + 1 < stopCount; k++) {
                    if (stops[k] == from && stops[k + 1] == to) {
                        sum += demandUnits[i];
                    }
                }
            }
            return sum;
        }

        int unitsThat(int outcome) {
            int sum = 0;
            for (int i = 0; i < demands; i++) {
                if (travel(demandFrom[i], demandAddress[i]) == outcome) {
                    sum += demandUnits[i];
                }
            }
            return sum;
        }

        int leastTable(int domain) {
            entries = 0;
            int atRoot = leastBelow(domain, 0, 0);
            return (atRoot & NOWHERE_BIT) != 0 ? entries : entries + 1;
        }

        /**
         * Answers the aims that, inherited by this part, make its table least; any other aim costs
         * just one entry more. Where two halves share no such aim, one of them pays an entry.
         */
        private int leastBelow(int domain, int address, int length) {
            if (length >= ADDRESS_BITS || !isSplit(domain, address, length)) {
                return aimBit(tieFor(domain, address));
            }
            int left = leastBelow(domain, address, length + 1);
            int right = leastBelow(domain, address | 1 << ADDRESS_BITS - 1 - length, length + 1);
            if ((left & right) != 0) {
                return left & right;
            }
            entries++;
            return left | right;
        }

        private boolean isSplit(int domain, int address, int length) {
            int mask = World.maskOf(length);
            for (int p = 0; p < world.prefixes; p++) {
                boolean inside = world.length[p] > length && (world.address[p] & mask) == address;
                if (inside && world.domain[domain].pickedTie[p] != NONE) {
                    return true;
                }
            }
            return false;
        }

        private static int aimBit(int tie) {
            if (tie == OWN) {
                return OWN_BIT;
            }
            return tie < 0 ? NOWHERE_BIT : 1 << tie;
        }

        /** Between two neighbouring borders of prefixes all addresses go alike; outside of all nobody sends. */
        long unlikeAddresses(int a, int b) {
            int borders = layBorders();
            long sum = 0;
            for (int i = 0; i + 1 < borders; i++) {
                int address = (int) border[i];
                if (partnerFor(a, address) != partnerFor(b, address)) {
                    sum += border[i + 1] - border[i];
                }
            }
            return sum;
        }

        private int layBorders() {
            int count = 0;
            for (int p = 0; p < world.prefixes; p++) {
                long from = world.address[p] & 0xFFFFFFFFL;
                insertBorder(from, count);
                insertBorder(from + (1L << ADDRESS_BITS - world.length[p]), count + 1);
                count += 2;
            }
            return count;
        }

        private void insertBorder(long place, int count) {
            int at = count;
            while (at > 0 && border[at - 1] > place) {
                border[at] = border[at - 1];
                at--;
            }
            border[at] = place;
        }
    }

    /** A net of places that wish for ways: its states of rest, and the states that can be come to. */
    private static final class Net {
        static final int PLACES = 7;
        static final int WISHES_MOST = 5;
        private static final int REACHED = 1;
        private static final int LEADS_TO_REST = 2;

        private final int[] ways;
        private final int[] lengths;
        private final int[] neededPlace;
        private final int[] neededWay;
        private final int[] weight;
        private final int[] has;
        private int[] queue;
        private int[] restState;
        private byte[] flags;
        private int states;
        private boolean restsKnown;
        private boolean explored;
        final int[] wishes;
        final int[] found;
        int restCount;

        Net() {
            wishes = new int[PLACES];
            ways = new int[PLACES * WISHES_MOST * PLACES];
            lengths = new int[PLACES * WISHES_MOST];
            neededPlace = new int[PLACES * WISHES_MOST];
            neededWay = new int[PLACES * WISHES_MOST];
            weight = new int[PLACES];
            has = new int[PLACES];
            queue = new int[16];
            restState = new int[16];
            flags = new byte[16];
            found = new int[4];
        }

        static boolean isWish(int[] way, int length) {
            if (length < 2 || length > PLACES || way[length - 1] != 0) {
                return false;
            }
            int met = 0;
            for (int i = 0; i < length; i++) {
                if (way[i] >= PLACES || (met >> way[i] & 1) != 0) {
                    return false;
                }
                met |= 1 << way[i];
            }
            return true;
        }

        /** Which wish of its first place the part of the way behind from is, or -1. */
        int find(int[] way, int from, int length) {
            int place = way[from];
            for (int w = 0; w < wishes[place]; w++) {
                int slot = place * WISHES_MOST + w;
                boolean same = lengths[slot] == length;
                for (int i = 0; i < length && same; i++) {
                    same = ways[slot * PLACES + i] == way[from + i];
                }
                if (same) {
                    return w;
                }
            }
            return -1;
        }

        int addWish(int[] way, int length) {
            int place = way[0];
            int slot = place * WISHES_MOST + wishes[place];
            System.arraycopy(way, 0, ways, slot * PLACES, length);
            lengths[slot] = length;
            wishes[place]++;
            restsKnown = false;
            explored = false;
            return wishes[place];
        }

        int forget() {
            int all = 0;
            for (int place = 1; place < PLACES; place++) {
                all += wishes[place];
                wishes[place] = 0;
            }
            restsKnown = false;
            explored = false;
            return all;
        }

        /**
         * A state is a number whose figures are what the places have, place 1 the highest, and none
         * the greatest figure: so rests found by counting up stand in the told order.
         */
        private void prepare() {
            states = 1;
            for (int place = PLACES - 1; place >= 1; place--) {
                weight[place] = states;
                states *= wishes[place] + 1;
                for (int w = 0; w < wishes[place]; w++) {
                    need(place * WISHES_MOST + w);
                }
            }
        }

        /** A needed way of -1 is one that its place does not wish for, and so never has. */
        private void need(int slot) {
            int second = ways[slot * PLACES + 1];
            neededPlace[slot] = second;
            neededWay[slot] = second == 0 ? 0 : find(ways, slot * PLACES + 1, lengths[slot] - 1);
        }

        /** What a place has when it acts; its number of wishes stands for none. */
        private int actOf(int place) {
            for (int w = 0; w < wishes[place]; w++) {
                int slot = place * WISHES_MOST + w;
                int second = neededPlace[slot];
                if (second == 0 || has[second] == neededWay[slot]) {
                    return w;
                }
            }
            return wishes[place];
        }

        private boolean isRest() {
            for (int place = 1; place < PLACES; place++) {
                if (has[place] != actOf(place)) {
                    return false;
                }
            }
            return true;
        }

        private void unfold(int state) {
            for (int place = 1; place < PLACES; place++) {
                has[place] = figure(state, place);
            }
        }

        private int figure(int state, int place) {
            int worth = weight[place];
            return worth > 0 ? state / worth % (wishes[place] + 1) : 0;
        }

        private void countUp() {
            int place = PLACES - 1;
            while (place > 1 && has[place] == wishes[place]) {
                has[place] = 0;
                place--;
            }
            has[place]++;
        }

        void findRests() {
            if (restsKnown) {
                return;
            }
            prepare();
            restCount = 0;
            unfold(0);
            for (int state = 0; state < states; state++) {
                if (isRest()) {
                    keepRest(state);
                }
                countUp();
            }
            restsKnown = true;
        }

        private void keepRest(int state) {
            if (restCount >= restState.length) {
                restState = Arrays.copyOf(restState, 2 * restCount);
            }
            restState[restCount] = state;
            restCount++;
        }

        int wayInRest(int i, int place) {
            int has = figure(restState[i], place);
            return has == wishes[place] ? OWN : has;
        }

        void explore() {
            if (explored) {
                return;
            }
            prepare();
            makeRoom();
            int reached = spread();
            int leading = leadBack();
            found[0] = reached;
            found[2] = reached - leading;
            explored = true;
        }

        /** Room grows at least twofold, so that all of it together stays small. */
        private void makeRoom() {
            if (states > queue.length) {
                int room = Math.max(states, 2 * queue.length);
                queue = new int[room];
                flags = new byte[room];
            }
            Arrays.fill(flags, (byte) 0);
        }

        /** Goes out from the state without ways, level by level; answers how many states it met. */
        private int spread() {
            found[1] = 0;
            found[3] = NONE;
            queue[0] = states - 1;
            flags[states - 1] = REACHED;
            int met = 1;
            int level = 0;
            int levelEnd = 1;
            for (int i = 0; i < met; i++) {
                if (i == levelEnd) {
                    level++;
                    levelEnd = met;
                }
                unfold(queue[i]);
                met = addNeighbours(queue[i], met);
                if (isRest()) {
                    flags[queue[i]] |= LEADS_TO_REST;
                    found[1]++;
                    found[3] = found[3] == NONE ? level : found[3];
                }
            }
            return met;
        }

        private int addNeighbours(int state, int met) {
            int all = met;
            for (int place = 1; place < PLACES; place++) {
                int next = state + (actOf(place) - has[place]) * weight[place];
                if (flags[next] == 0) {
                    flags[next] = REACHED;
                    queue[all] = next;
                    all++;
                }
            }
            return all;
        }

        /** Goes back from the rests; answers how many of the states met lead to one. */
        private int leadBack() {
            int leading = 0;
            for (int state = 0; state < states; state++) {
                if ((flags[state] & LEADS_TO_REST) != 0) {
                    queue[leading] = state;
                    leading++;
                }
            }
            for (int i = 0; i < leading; i++) {
                unfold(queue[i]);
                leading = addSources(queue[i], leading);
            }
            return leading;
        }

        /** What a place does never hangs on what it has: so it could have had any other way before. */
        private int addSources(int state, int leading) {
            int all = leading;
            for (int place = 1; place < PLACES; place++) {
                if (actOf(place) != has[place]) {
                    continue;
                }
                for (int had = 0; had <= wishes[place]; had++) {
                    int source = state + (had - has[place]) * weight[place];
                    if (flags[source] == REACHED) {
                        flags[source] |= LEADS_TO_REST;
                        queue[all] = source;
                        all++;
                    }
                }
            }
            return all;
        }
    }
}
