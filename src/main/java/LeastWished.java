import java.util.Arrays;
import java.util.NoSuchElementException;

/** A lift that goes where its riders least wish; DOC.md says what each call promises. */
public final class LeastWished {
    public static final int NONE = -1;

    private static final int NO_WAY = -2;
    private static final int MISSING = -3;
    private static final int TOO_MANY = -3;
    private static final int LAW_ASKS_RIDES = -4;
    private static final int NO_SUCH_COUNT = -100;

    private static final int MOST_FLOORS = 9;
    private static final int MOST_RIDERS = 10;
    private static final int MOST_SIGNS = 80;
    private static final int HOUSE_SIGNS = 76;
    private static final int LAW_SIGNS = 40;
    private static final int DAY_SIGNS = 60;
    private static final int MOST_PARENTHESES = 4;
    private static final int MOST_UNDONE = 20;
    private static final int MOST_KEPT = 3;
    private static final int MOST_SEEN = 8;
    private static final int MOST_STATES = 3000;
    private static final int DOG_RIDES = 7;
    private static final int FULL_TRUTH = 10;
    private static final int NO_WISH_BIT = 9;
    private static final int ROW_SIZE = 12;
    private static final int PLAN_ROW = 10;

    // While the same riders are in, floor and ride of seven come again within 63 rides;
    // at most nine others come home ahead of the one that is waited for.
    private static final int ENOUGH_RIDES = 10 * MOST_FLOORS * DOG_RIDES;
    // Two divisions halve a number, and no number told has more than 63 bits.
    private static final int ENOUGH_DIVISIONS = 2 * 63 + 2;

    private final Text text = new Text();
    private final House building = new House();
    private final Moment now = new Moment();
    private final Moment trial = new Moment();
    private final Past past = new Past();
    private final Moment[] kept = new Moment[MOST_KEPT];
    private final boolean[] isKept = new boolean[MOST_KEPT];
    private final Seen seen = new Seen();
    private final long[] chances = new long[MOST_FLOORS];
    private final long[] told = new long[ROW_SIZE];
    private int toldCount = 0;
    private final Day today = new Day();
    // Its rows are long: they are made with the object, and each search uses them again.
    private final Search plans = new Search();

    public LeastWished() {
        for (int i = 0; i < MOST_KEPT; i++) {
            kept[i] = new Moment();
        }
    }

    // ---- the house

    public int sign(int v) {
        if (text.size + 4 > MOST_SIGNS) {
            return NONE;
        }
        text.put(v >>> 24);
        text.put((v >>> 16) & 255);
        text.put((v >>> 8) & 255);
        text.put(v & 255);
        return text.size;
    }

    public boolean end(int n) {
        if (n < 0 || n > text.size) {
            return false;
        }
        text.size = n;
        return true;
    }

    public boolean floors(int n) {
        if (n < 2 || n > MOST_FLOORS) {
            return false;
        }
        building.empty(n);
        now.clear();
        seen.size = 0;
        forgetWhatWas();
        return true;
    }

    public int house() {
        int flaw = building.flawOfLines(text, now.lift);
        int lines = 0;
        if (flaw < 0) {
            lines = takeLines();
        }
        text.size = 0;
        return flaw < 0 ? lines : -1 - flaw;
    }

    public int law() {
        int flaw = building.rule.flawOf(text);
        if (flaw < 0) {
            building.rule.take(text);
        }
        text.size = 0;
        return flaw < 0 ? 0 : -1 - flaw;
    }

    public int of(int rider, int what) throws NoSuchElementException {
        if (!building.hasRider(rider)) {
            throw new NoSuchElementException();
        }
        switch (what) {
            case 0:
                return building.home[rider];
            case 1:
                return now.wish[rider];
            case 2:
                return building.truth[rider];
            case 3:
                return now.at[rider];
            case 4:
                return (now.inside >> rider) & 1;
            case 5:
                return now.ridden[rider];
            default:
                throw new NoSuchElementException();
        }
    }

    public boolean set(int what, int rider, int v) {
        if (!building.hasRider(rider)) {
            return false;
        }
        if (what == 0 && building.hasFloor(v)) {
            building.home[rider] = v;
            return true;
        }
        if (what == 1 && building.canBeWish(v)) {
            now.wish[rider] = v;
            return true;
        }
        if (what == 2 && v >= 0 && v <= FULL_TRUTH) {
            building.truth[rider] = v;
            return true;
        }
        return false;
    }

    public int sheet(int kind, int n, int f, int step) {
        if (kind < 0 || kind > 3 || n > MOST_RIDERS) {
            return NONE;
        }
        if (kind != 3 && n < 0) {
            return NO_WAY;
        }
        int entries = kind == 3 ? 0 : n;
        int entry = f;
        int have = 0;
        for (int i = 0; i < building.riders; i++) {
            int wish = i < entries ? asKind(kind, entry) : NONE;
            now.wish[i] = building.hasFloor(wish) ? wish : NONE;
            have += now.wish[i] == NONE ? 0 : 1;
            entry += step;
        }
        return kind == 3 ? MISSING : have;
    }

    public boolean dog(int f) {
        if (f != NONE && !building.hasFloor(f)) {
            return false;
        }
        building.dogFloor = f;
        return true;
    }

    public int crowd(int seed, int n) {
        if (n < 0 || n > MOST_RIDERS) {
            return NONE;
        }
        int before = building.riders;
        int drawn = seed;
        for (int i = before; i < n; i++) {
            drawn = nextDrawn(drawn);
            int home = ofFloors(drawn);
            drawn = nextDrawn(drawn);
            int wish = ofFloors(drawn);
            drawn = nextDrawn(drawn);
            addRider(home, wish, ofFloors(drawn), false);
        }
        int came = building.riders - before;
        if (came > 0) {
            forgetWhatWas();
        }
        return came;
    }

    // ---- rides

    public boolean enter(int rider) {
        if (!now.stands(rider)) {
            return false;
        }
        past.prepare(now);
        now.inside |= 1 << rider;
        past.commit();
        return true;
    }

    public boolean leave(int rider) {
        if (!now.isIn(rider)) {
            return false;
        }
        past.prepare(now);
        now.inside &= ~(1 << rider);
        past.commit();
        return true;
    }

    public int ride() {
        past.prepare(now);
        int came = building.carry(now);
        past.commit();
        clearRow();
        tell(came);
        return now.lift;
    }

    public int rides(int n) {
        if (n < 0 || n > 60) {
            return NONE;
        }
        past.prepare(now);
        int came = 0;
        int done = 0;
        while (done < n && now.inside != 0) {
            came |= building.carry(now);
            done++;
        }
        if (done > 0) {
            past.commit();
        }
        clearRow();
        tell(came);
        tell(now.lift);
        return done;
    }

    public int day() {
        int flaw = Day.flawOf(text);
        if (flaw >= 0) {
            text.size = 0;
            return -1 - flaw;
        }
        past.prepare(now);
        boolean whole = today.live(building, now, text);
        if (today.deeds > 0) {
            past.commit();
        }
        text.size = 0;
        clearRow();
        tell(today.rides);
        tell(whole ? 0 : 1);
        return today.acts;
    }

    public int undo() {
        return past.bringBack(now) ? past.size : NONE;
    }

    // ---- where it goes (nothing changes)

    public int stop() {
        return building.nextStop(now, now.inside);
    }

    public int goes(int those) {
        if ((those & ~now.onFloor(now.lift)) != 0) {
            return NO_WAY;
        }
        int stop = building.nextStop(now, those);
        building.look(now, those);
        clearRow();
        for (int f = 0; f < building.floors; f++) {
            tell(building.rule.worth(building.scene, f));
        }
        return stop;
    }

    public int worthOf(int f) throws NoSuchElementException {
        if (!building.hasFloor(f)) {
            throw new NoSuchElementException();
        }
        building.look(now, now.inside);
        return building.rule.worth(building.scene, f);
    }

    public int can() {
        Arrays.fill(chances, 0);
        int there = now.onFloor(now.lift);
        int sets = setsOf(there);
        int those = 0;
        for (int k = 0; k < sets; k++) {
            addChance(building.nextStop(now, those), 1);
            those = nextSet(those, there);
        }
        clearRow();
        int can = 0;
        for (int f = 0; f < building.floors; f++) {
            can |= chances[f] > 0 ? 1 << f : 0;
            tell(chances[f]);
        }
        return can;
    }

    public int along(int f) {
        return fewestMoved(f, now.onFloor(now.lift) & ~now.inside);
    }

    public int without(int f) {
        return fewestMoved(f, now.inside);
    }

    public int advise(int rider) {
        if (!now.isIn(rider)) {
            return NO_WAY;
        }
        trial.copy(now);
        int wish = bestWish(trial, rider);
        clearRow();
        tell(distanceBy(trial, rider, wish));
        return wish;
    }

    public int rests(int n) {
        if (n < 0 || n > 30) {
            return NONE;
        }
        trial.copy(now);
        int rounds = 0;
        boolean rested = false;
        while (rounds < n && !rested) {
            rested = !tellAnew(trial);
            rounds++;
        }
        clearRow();
        tell(rested ? 1 : 0);
        tell(building.nextStop(trial, trial.inside));
        for (int i = 0; i < building.riders; i++) {
            tell(trial.wish[i]);
        }
        return rounds;
    }

    public int then(int n) {
        if (n < 0 || n > 12) {
            return NONE;
        }
        trial.copy(now);
        clearRow();
        int came = 0;
        for (int k = 0; k < n; k++) {
            came |= building.carry(trial);
            tell(trial.lift);
        }
        return Integer.bitCount(came);
    }

    public int since(int rider) {
        if (!now.isIn(rider)) {
            return NONE;
        }
        if (building.rule.asksRides) {
            return LAW_ASKS_RIDES;
        }
        trial.copy(now);
        for (int k = 1; k <= ENOUGH_RIDES; k++) {
            building.carry(trial);
            if (!trial.isIn(rider)) {
                return k;
            }
        }
        return NO_WAY;
    }

    public int ballast(int rider, int n) throws NoSuchElementException {
        if (!now.isIn(rider) || n < 0 || n > 40) {
            throw new NoSuchElementException();
        }
        int others = ~(1 << rider);
        int with = comeHome(now.inside, n) & others;
        int standing = comeHome(now.inside & others, n);
        return Integer.bitCount(with) - Integer.bitCount(standing);
    }

    public int hinders(int n) {
        if (n < 0 || n > 40) {
            return NONE;
        }
        int best = NONE;
        int most = NONE;
        for (int i = 0; i < building.riders; i++) {
            if (now.isIn(i)) {
                int came = Integer.bitCount(comeHome(now.inside & ~(1 << i), n));
                if (came > most) {
                    most = came;
                    best = i;
                }
            }
        }
        if (best == NONE) {
            return NO_WAY;
        }
        clearRow();
        tell(most);
        return best;
    }

    // ---- plans

    public int all() {
        return ridesTillHome(building.everybody());
    }

    public int one(int rider) {
        if (!building.hasRider(rider)) {
            return NONE;
        }
        return ridesTillHome(1 << rider);
    }

    public int gather(int f, int those) {
        if (!building.hasFloor(f) || (those & ~building.everybody()) != 0) {
            return NONE;
        }
        if (building.rule.asksRides) {
            return LAW_ASKS_RIDES;
        }
        plans.wantGathered(f, those);
        int found = plans.seek(building, now, MOST_STATES);
        if (found < 0) {
            return plans.more ? TOO_MANY : NO_WAY;
        }
        return plans.rides;
    }

    public int states(int n) {
        if (n < 0 || n > 6) {
            return NONE;
        }
        if (building.rule.asksRides) {
            return LAW_ASKS_RIDES;
        }
        plans.wantNothing();
        plans.seek(building, now, n);
        if (plans.more) {
            return TOO_MANY;
        }
        clearRow();
        tell(plans.everHome() & building.everybody());
        tell(plans.everStopped());
        return plans.found;
    }

    public int stuck() {
        if (building.rule.asksRides) {
            return LAW_ASKS_RIDES;
        }
        plans.wantNothing();
        plans.seek(building, now, MOST_STATES);
        if (plans.more) {
            return TOO_MANY;
        }
        return building.everybody() & ~plans.everHome();
    }

    // ---- stops that were seen

    public int saw(int from, int those, int to) {
        boolean floorsAre = building.hasFloor(from) && building.hasFloor(to) && from != to;
        if (!floorsAre || (those & ~building.everybody()) != 0 || seen.size >= MOST_SEEN) {
            return NONE;
        }
        seen.add(from, those, to);
        return seen.size;
    }

    public int forget() {
        int was = seen.size;
        seen.size = 0;
        return was;
    }

    public int believed() {
        seen.believe(now.wish);
        int wrong = seen.notSo(building);
        clearRow();
        tell(wrong);
        return wrong == 0 ? 1 : 0;
    }

    public int fits(int rider) {
        if (!building.hasRider(rider)) {
            return NONE;
        }
        seen.believe(now.wish);
        int fitting = 0;
        for (int wish = NONE; wish < building.floors; wish++) {
            if (seen.allSoIf(building, rider, wish)) {
                fitting |= 1 << (wish == NONE ? NO_WISH_BIT : wish);
            }
        }
        return fitting;
    }

    public int lies() {
        seen.believe(now.wish);
        if (seen.allSo(building)) {
            clearRow();
            tell(0);
            return 0;
        }
        int everybody = building.everybody();
        for (int liars = 1; liars <= 2; liars++) {
            for (int who = 1; who <= everybody; who++) {
                if (Integer.bitCount(who) == liars && explainedBy(who)) {
                    return liars;
                }
            }
        }
        return NO_WAY;
    }

    public int truly(int f) {
        if (!building.hasFloor(f)) {
            return NONE;
        }
        seen.believe(now.wish);
        int riders = 0;
        for (int i = 0; i < building.riders; i++) {
            if (seen.soWithOneMore(building, i, f)) {
                riders |= 1 << i;
            }
        }
        return riders;
    }

    // ---- odds and two lifts

    public int odds(int f) {
        if (!building.hasFloor(f)) {
            return NONE;
        }
        long parts = weighStops();
        clearRow();
        tellFraction(chances[f], parts);
        return 0;
    }

    public int likely() {
        long parts = weighStops();
        int best = 0;
        for (int f = 1; f < building.floors; f++) {
            if (chances[f] > chances[best]) {
                best = f;
            }
        }
        clearRow();
        tellFraction(chances[best], parts);
        return best;
    }

    public int split() {
        int there = now.onFloor(now.lift);
        int sets = setsOf(there);
        int most = NONE;
        int best = 0;
        int first = 0;
        for (int k = 0; k < sets; k++) {
            int home = building.homeAt(first, building.nextStop(now, first))
                    | building.homeAt(there & ~first, building.nextStop(now, there & ~first));
            if (Integer.bitCount(home) > most) {
                most = Integer.bitCount(home);
                best = first;
            }
            first = nextSet(first, there);
        }
        clearRow();
        tell(best);
        tell(building.nextStop(now, best));
        tell(building.nextStop(now, there & ~best));
        return most;
    }

    // ---- kept

    public boolean keep(int i) {
        if (i < 0 || i >= MOST_KEPT) {
            return false;
        }
        kept[i].copy(now);
        isKept[i] = true;
        return true;
    }

    public boolean again(int i) {
        if (i < 0 || i >= MOST_KEPT || !isKept[i]) {
            return false;
        }
        now.copy(kept[i]);
        past.size = 0;
        return true;
    }

    public int count(int what) {
        switch (what) {
            case 0:
                return building.floors;
            case 1:
                return building.riders;
            case 2:
                return now.lift;
            case 3:
                return now.rides;
            case 4:
                return now.inside;
            case 5:
                return now.onFloor(now.lift) & ~now.inside;
            case 6:
                return now.onFloor(NONE) & building.everybody();
            case 7:
                return building.dogFloor;
            case 8:
                return past.size;
            case 9:
                return seen.size;
            case 10:
                return toldCount;
            case 11:
                return text.size;
            default:
                return NO_SUCH_COUNT;
        }
    }

    public long row(int i) throws NoSuchElementException {
        if (i < 0 || i >= toldCount) {
            throw new NoSuchElementException();
        }
        return told[i];
    }

    // ---- the row

    private void clearRow() {
        toldCount = 0;
    }

    private void tell(long number) {
        if (toldCount < ROW_SIZE) {
            told[toldCount] = number;
            toldCount++;
        }
    }

    private void tellFraction(long upper, long lower) {
        long a = upper;
        long b = lower;
        for (int k = 0; k < ENOUGH_DIVISIONS && b > 0; k++) {
            long rest = a % b;
            a = b;
            b = rest;
        }
        if (a > 0) {
            tell(upper / a);
            tell(lower / a);
        }
    }

    // ---- sets of riders

    private static int setsOf(int those) {
        return 1 << Integer.bitCount(those);
    }

    /** Of the sets within those the next one in rising order; behind the last one the empty set. */
    private static int nextSet(int set, int those) {
        return (set - those) & those;
    }

    // ---- riders that come

    private int takeLines() {
        int lines = 0;
        int p = 0;
        while (p + 5 <= text.size) {
            int home = text.at(p) - '0';
            int wish = text.at(p + 2) == '-' ? NONE : text.at(p + 2) - '0';
            boolean in = text.at(p + 5) == '!';
            addRider(home, wish, text.at(p + 4) - '0', in);
            lines++;
            p += in ? 7 : 6;
        }
        if (lines > 0) {
            forgetWhatWas();
        }
        return lines;
    }

    private void addRider(int home, int wish, int floor, boolean in) {
        int i = building.riders;
        if (i >= MOST_RIDERS) {
            return;
        }
        building.home[i] = home;
        building.truth[i] = FULL_TRUTH;
        building.riders++;
        now.at[i] = floor;
        now.wish[i] = wish;
        now.ridden[i] = 0;
        if (in) {
            now.inside |= 1 << i;
        }
    }

    private void forgetWhatWas() {
        past.size = 0;
        for (int i = 0; i < MOST_KEPT; i++) {
            isKept[i] = false;
        }
    }

    private static int nextDrawn(int drawn) {
        return drawn * 1103515245 + 12345;
    }

    private int ofFloors(int drawn) {
        int floors = building.floors;
        return floors > 0 ? (drawn >>> 16) % floors : 0;
    }

    private static int asKind(int kind, int entry) {
        if (kind == 0) {
            return (byte) entry;
        }
        return kind == 1 ? (short) entry : entry;
    }

    // ---- who is moved, what is told

    private int fewestMoved(int f, int movable) {
        if (!building.hasFloor(f)) {
            return NONE;
        }
        int sets = setsOf(movable);
        int fewest = MOST_RIDERS + 1;
        int best = 0;
        int moved = 0;
        for (int k = 0; k < sets; k++) {
            int many = Integer.bitCount(moved);
            if (many < fewest && building.nextStop(now, now.inside ^ moved) == f) {
                fewest = many;
                best = moved;
            }
            moved = nextSet(moved, movable);
        }
        if (fewest > MOST_RIDERS) {
            return NO_WAY;
        }
        clearRow();
        tell(best);
        return fewest;
    }

    /** How far from its home the next stop is, if one told that wish. */
    private int distanceBy(Moment m, int rider, int wish) {
        int own = m.wish[rider];
        m.wish[rider] = wish;
        int stop = building.nextStop(m, m.inside);
        m.wish[rider] = own;
        return Math.abs(stop - building.home[rider]);
    }

    private int bestWish(Moment m, int rider) {
        int best = m.wish[rider];
        int nearest = distanceBy(m, rider, best);
        for (int wish = NONE; wish < building.floors; wish++) {
            int distance = distanceBy(m, rider, wish);
            if (distance < nearest) {
                nearest = distance;
                best = wish;
            }
        }
        return best;
    }

    /** One round: whether anyone told another wish. */
    private boolean tellAnew(Moment m) {
        boolean another = false;
        for (int i = 0; i < building.riders; i++) {
            if (m.isIn(i)) {
                int wish = bestWish(m, i);
                another |= wish != m.wish[i];
                m.wish[i] = wish;
            }
        }
        return another;
    }

    /** Who comes home in the next rides, if just those were in. */
    private int comeHome(int those, int rides) {
        trial.copy(now);
        trial.inside = those;
        int came = 0;
        for (int k = 0; k < rides; k++) {
            came |= building.carry(trial);
        }
        return came;
    }

    // ---- plans

    private int ridesTillHome(int those) {
        if (building.rule.asksRides) {
            return LAW_ASKS_RIDES;
        }
        plans.wantHome(those);
        int found = plans.seek(building, now, MOST_STATES);
        if (found < 0) {
            return plans.more ? TOO_MANY : NO_WAY;
        }
        tellPlan(found);
        return plans.rides;
    }

    private void tellPlan(int found) {
        int state = found;
        for (int k = plans.rides - 1; k >= 0; k--) {
            if (k < PLAN_ROW) {
                told[k] = plans.taken(state);
            }
            state = plans.cameFrom(state);
        }
        toldCount = Math.min(plans.rides, PLAN_ROW);
    }

    // ---- lies and odds

    /** Whether other wishes of just those (one or two) explain what was seen; the least such row is told. */
    private boolean explainedBy(int who) {
        int first = Integer.numberOfTrailingZeros(who);
        int rest = who & (who - 1);
        int second = Integer.numberOfTrailingZeros(rest);
        for (int wish = NONE; wish < building.floors; wish++) {
            if (wish != now.wish[first]) {
                int other = NONE;
                boolean so;
                if (rest == 0) {
                    so = seen.allSoIf(building, first, wish);
                } else {
                    other = seen.otherWishSo(building, first, wish, second);
                    so = other != Seen.UNEXPLAINED;
                }
                if (so) {
                    tellLiars(who, wish, other);
                    return true;
                }
            }
        }
        return false;
    }

    private void tellLiars(int who, int wish, int other) {
        clearRow();
        tell(who);
        tell(wish);
        if (Integer.bitCount(who) > 1) {
            tell(other);
        }
    }

    private void addChance(int stop, long weight) {
        if (stop >= 0 && stop < MOST_FLOORS) {
            chances[stop] += weight;
        }
    }

    /** Fills chances with each stop's parts: of how many parts in all. */
    private long weighStops() {
        Arrays.fill(chances, 0);
        trial.copy(now);
        int sets = setsOf(now.inside);
        int honest = 0;
        long parts = 0;
        for (int k = 0; k < sets; k++) {
            long weight = weightOf(honest);
            if (weight > 0) {
                addChance(building.nextStop(trial, now.inside), weight);
                parts += weight;
            }
            honest = nextSet(honest, now.inside);
        }
        return parts;
    }

    /** How many parts it has that just those tell the truth; trial has the wishes that they have then. */
    private long weightOf(int honest) {
        long weight = 1;
        for (int i = 0; i < building.riders; i++) {
            if (now.isIn(i)) {
                boolean isHonest = ((honest >> i) & 1) != 0;
                weight *= isHonest ? building.truth[i] : FULL_TRUTH - building.truth[i];
                trial.wish[i] = isHonest ? building.home[i] : now.wish[i];
            }
        }
        return weight;
    }

    /** The text that is told sign by sign. */
    private static final class Text {
        final int[] signs = new int[MOST_SIGNS];
        int size = 0;

        void put(int sign) {
            if (size < MOST_SIGNS) {
                signs[size] = sign;
                size++;
            }
        }

        /** The sign at p, or NONE where there is none. */
        int at(int p) {
            return p >= 0 && p < size ? signs[p] : NONE;
        }

        /** Where it is wrong, all signs up to the limit being right: at the limit, its end, or nowhere (NONE). */
        int flawAtEnd(int limit, boolean whole) {
            if (size > limit) {
                return limit;
            }
            return whole ? NONE : size;
        }
    }

    /** What rides change: where each is, the lift, the rides, the wishes. */
    private static final class Moment {
        final int[] at = new int[MOST_RIDERS];
        final int[] wish = new int[MOST_RIDERS];
        final int[] ridden = new int[MOST_RIDERS];
        int inside = 0;
        int lift = 0;
        int rides = 0;

        Moment() {
            Arrays.fill(at, NONE);
            Arrays.fill(wish, NONE);
        }

        void clear() {
            Arrays.fill(at, NONE);
            Arrays.fill(wish, NONE);
            Arrays.fill(ridden, 0);
            inside = 0;
            lift = 0;
            rides = 0;
        }

        void copy(Moment m) {
            System.arraycopy(m.at, 0, at, 0, MOST_RIDERS);
            System.arraycopy(m.wish, 0, wish, 0, MOST_RIDERS);
            System.arraycopy(m.ridden, 0, ridden, 0, MOST_RIDERS);
            inside = m.inside;
            lift = m.lift;
            rides = m.rides;
        }

        boolean isIn(int rider) {
            return rider >= 0 && rider < MOST_RIDERS && ((inside >> rider) & 1) != 0;
        }

        /** Whether one stands where the lift is (nobody who is not there has a floor). */
        boolean stands(int rider) {
            return rider >= 0 && rider < MOST_RIDERS && at[rider] == lift && !isIn(rider);
        }

        /** Who is on a floor, standing or in (bits). */
        int onFloor(int f) {
            int there = 0;
            for (int i = 0; i < MOST_RIDERS; i++) {
                there |= at[i] == f ? 1 << i : 0;
            }
            return there;
        }
    }

    /** The latest moments that can be brought back. */
    private static final class Past {
        // One more than can be undone: the one that is prepared must not cost the oldest.
        private static final int SLOTS = MOST_UNDONE + 1;
        final Moment[] moments = new Moment[SLOTS];
        int next = 0;
        int size = 0;

        Past() {
            for (int i = 0; i < SLOTS; i++) {
                moments[i] = new Moment();
            }
        }

        void prepare(Moment m) {
            moments[next].copy(m);
        }

        void commit() {
            next = next + 1 < SLOTS ? next + 1 : 0;
            size = Math.min(size + 1, MOST_UNDONE);
        }

        boolean bringBack(Moment m) {
            if (size == 0) {
                return false;
            }
            next = next > 0 ? next - 1 : SLOTS - 1;
            size--;
            m.copy(moments[next]);
            return true;
        }
    }

    /** What a law can be asked about ahead of a ride. */
    private static final class Scene {
        final int[] wished = new int[MOST_FLOORS];
        final int[] standing = new int[MOST_FLOORS];
        int in = 0;
        int lift = 0;
        int rides = 0;
    }

    /** The building, its riders and its law: where the lift goes. */
    private static final class House {
        int floors = 2;
        int dogFloor = NONE;
        int riders = 0;
        final int[] home = new int[MOST_RIDERS];
        final int[] truth = new int[MOST_RIDERS];
        final Law rule = new Law();
        final Scene scene = new Scene();

        void empty(int n) {
            floors = n;
            dogFloor = NONE;
            riders = 0;
        }

        boolean hasFloor(int f) {
            return f >= 0 && f < floors;
        }

        boolean canBeWish(int f) {
            return f == NONE || hasFloor(f);
        }

        boolean hasRider(int i) {
            return i >= 0 && i < riders;
        }

        int everybody() {
            return (1 << riders) - 1;
        }

        /** Takes in what the law can ask, if just those were in. */
        void look(Moment m, int inside) {
            Arrays.fill(scene.wished, 0);
            Arrays.fill(scene.standing, 0);
            scene.in = Integer.bitCount(inside);
            scene.lift = m.lift;
            scene.rides = m.rides;
            for (int i = 0; i < riders; i++) {
                if (((inside >> i) & 1) == 0) {
                    addAt(scene.standing, m.at[i]);
                } else {
                    addAt(scene.wished, m.wish[i]);
                }
            }
        }

        private static void addAt(int[] counts, int f) {
            if (f >= 0 && f < counts.length) {
                counts[f]++;
            }
        }

        /** The stop of the next ride, if just those were in. */
        int nextStop(Moment m, int inside) {
            if ((m.rides + 1) % DOG_RIDES == 0 && dogFloor != NONE && dogFloor != m.lift) {
                return dogFloor;
            }
            look(m, inside);
            int best = NONE;
            int least = 0;
            for (int f = 0; f < floors; f++) {
                if (f != m.lift) {
                    int worth = rule.worth(scene, f);
                    boolean better = best == NONE || worth < least
                            || worth == least && Math.abs(f - m.lift) < Math.abs(best - m.lift);
                    if (better) {
                        best = f;
                        least = worth;
                    }
                }
            }
            return best;
        }

        /** Of those the ones whose home is that floor. */
        int homeAt(int those, int f) {
            int there = 0;
            for (int i = 0; i < riders; i++) {
                if (((those >> i) & 1) != 0 && home[i] == f) {
                    there |= 1 << i;
                }
            }
            return there;
        }

        /** A ride: who came home (bits). */
        int carry(Moment m) {
            int stop = nextStop(m, m.inside);
            int came = homeAt(m.inside, stop);
            for (int i = 0; i < riders; i++) {
                if (m.isIn(i)) {
                    m.ridden[i]++;
                    m.at[i] = ((came >> i) & 1) != 0 ? NONE : stop;
                }
            }
            m.inside &= ~came;
            m.lift = stop;
            m.rides++;
            return came;
        }

        // Places in a line: 0 home, 1 the >, 2 wish, 3 the @, 4 floor, 5 behind the floor, 6 behind the !.
        /** Where a text can't be lines of riders (NONE: it can). */
        int flawOfLines(Text t, int lift) {
            if (t.size == 0) {
                return NONE;
            }
            int most = Math.min(t.size, HOUSE_SIGNS);
            int place = 0;
            int lines = 0;
            for (int p = 0; p < most; p++) {
                int sign = t.at(p);
                if (place == 0) {
                    lines++;
                    if (riders + lines > MOST_RIDERS) {
                        return p;
                    }
                }
                boolean liftIsThere = t.at(p - 1) - '0' == lift;
                place = nextPlace(place, sign, liftIsThere);
                if (place < 0) {
                    return p;
                }
            }
            return t.flawAtEnd(HOUSE_SIGNS, place >= 5);
        }

        private int nextPlace(int place, int sign, boolean liftIsThere) {
            switch (place) {
                case 0:
                    return hasFloor(sign - '0') ? 1 : NONE;
                case 1:
                    return sign == '>' ? 2 : NONE;
                case 2:
                    return sign == '-' || hasFloor(sign - '0') ? 3 : NONE;
                case 3:
                    return sign == '@' ? 4 : NONE;
                case 4:
                    return hasFloor(sign - '0') ? 5 : NONE;
                case 5:
                    if (sign == '!' && liftIsThere) {
                        return 6;
                    }
                    return sign == ';' ? 0 : NONE;
                default:
                    return sign == ';' ? 0 : NONE;
            }
        }
    }

    /** The law: an expression, kept with each operator behind its things. */
    private static final class Law {
        // In the code numbers stand as they are, names and operators as minus their sign.
        private static final int NEGATION = '~';
        final int[] code = new int[LAW_SIGNS];
        final int[] waiting = new int[LAW_SIGNS];
        final int[] values = new int[LAW_SIGNS];
        int size = 0;
        int waitingCount = 0;
        boolean asksRides = false;

        Law() {
            code[0] = -'w';
            size = 1;
        }

        private static boolean isDigit(int sign) {
            return sign >= '0' && sign <= '9';
        }

        private static boolean isName(int sign) {
            return sign == 'f' || sign == 'w' || sign == 'd' || sign == 's'
                    || sign == 'n' || sign == 'r' || sign == 'l';
        }

        private static boolean compares(int sign) {
            return sign == '<' || sign == '>' || sign == '=';
        }

        private static boolean joinsTwo(int sign) {
            return sign == '+' || sign == '-' || sign == '*' || sign == '/' || compares(sign);
        }

        private static int strength(int operator) {
            if (operator == NEGATION) {
                return 4;
            }
            if (operator == '*' || operator == '/') {
                return 3;
            }
            if (operator == '+' || operator == '-') {
                return 2;
            }
            return compares(operator) ? 1 : 0;
        }

        /** Where a text can't be a law (NONE: it can). */
        int flawOf(Text t) {
            if (t.size == 0) {
                return NONE;
            }
            int most = Math.min(t.size, LAW_SIGNS);
            boolean wantsThing = true;
            int open = 0;
            int compared = 0;
            int digits = 0;
            for (int p = 0; p < most; p++) {
                int sign = t.at(p);
                digits = isDigit(sign) ? digits + 1 : 0;
                if (wantsThing) {
                    if (sign == '(' && open < MOST_PARENTHESES) {
                        open++;
                        compared &= ~(1 << open);
                    } else if (isDigit(sign) || isName(sign)) {
                        wantsThing = false;
                    } else if (sign != '-') {
                        return p;
                    }
                } else if (joinsTwo(sign)) {
                    if (compares(sign)) {
                        if (((compared >> open) & 1) != 0) {
                            return p;
                        }
                        compared |= 1 << open;
                    }
                    wantsThing = true;
                } else if (sign == ')' && open > 0) {
                    open--;
                } else if (digits < 2 || digits > 3) {
                    return p;
                }
            }
            return t.flawAtEnd(LAW_SIGNS, !wantsThing && open == 0);
        }

        /** A text without a flaw becomes the law. */
        void take(Text t) {
            size = 0;
            waitingCount = 0;
            asksRides = false;
            boolean wantsThing = true;
            for (int p = 0; p < t.size; p++) {
                int sign = t.at(p);
                if (isDigit(sign)) {
                    putDigit(sign - '0', !wantsThing);
                    wantsThing = false;
                } else if (isName(sign)) {
                    put(-sign);
                    asksRides |= sign == 'r';
                    wantsThing = false;
                } else if (sign == '(') {
                    await(sign);
                } else if (sign == ')') {
                    release(1);
                    waitingCount = Math.max(waitingCount - 1, 0);
                } else if (wantsThing) {
                    await(NEGATION);
                } else {
                    release(strength(sign));
                    await(sign);
                    wantsThing = true;
                }
            }
            release(1);
            if (size == 0) {
                put(-'w');
            }
        }

        private void put(int c) {
            if (size < LAW_SIGNS) {
                code[size] = c;
                size++;
            }
        }

        private void putDigit(int digit, boolean goesOn) {
            if (goesOn && size > 0) {
                code[size - 1] = code[size - 1] * 10 + digit;
            } else {
                put(digit);
            }
        }

        private void await(int operator) {
            if (waitingCount < LAW_SIGNS) {
                waiting[waitingCount] = operator;
                waitingCount++;
            }
        }

        private void release(int weakest) {
            while (waitingCount > 0 && strength(waiting[waitingCount - 1]) >= weakest) {
                waitingCount--;
                put(-waiting[waitingCount]);
            }
        }

        int worth(Scene s, int f) {
            int top = 0;
            for (int k = 0; k < size; k++) {
                int c = code[k];
                if (c >= 0) {
                    values[top] = c;
                    top++;
                } else if (isName(-c)) {
                    values[top] = named(-c, s, f);
                    top++;
                } else if (c == -NEGATION && top > 0) {
                    values[top - 1] = -values[top - 1];
                } else if (top > 1) {
                    top--;
                    values[top - 1] = joined(-c, values[top - 1], values[top]);
                }
            }
            return values[0];
        }

        private static int named(int name, Scene s, int f) {
            switch (name) {
                case 'f':
                    return f;
                case 'w':
                    return f >= 0 && f < MOST_FLOORS ? s.wished[f] : 0;
                case 'd':
                    return f < s.lift ? s.lift - f : f - s.lift;
                case 's':
                    return f >= 0 && f < MOST_FLOORS ? s.standing[f] : 0;
                case 'n':
                    return s.in;
                case 'r':
                    return s.rides;
                default:
                    return s.lift;
            }
        }

        private static int joined(int operator, int a, int b) {
            switch (operator) {
                case '+':
                    return a + b;
                case '-':
                    return a - b;
                case '*':
                    return a * b;
                case '/':
                    return b == 0 ? 0 : a / b;
                case '<':
                    return a < b ? 1 : 0;
                case '>':
                    return a > b ? 1 : 0;
                default:
                    return a == b ? 1 : 0;
            }
        }
    }

    /** A day that is told as a text: its acts are done one by one. */
    private static final class Day {
        int acts = 0;
        int rides = 0;
        int deeds = 0;

        // Places in an act: 0 its first sign, 1 first letter of i or o, 2 behind such a letter,
        // 3 letter of w, 4 wish of w, 5 behind r, 6 behind an act that can't go on.
        /** Where a text can't be a day (NONE: it can). */
        static int flawOf(Text t) {
            if (t.size == 0) {
                return NONE;
            }
            int most = Math.min(t.size, DAY_SIGNS);
            int place = 0;
            for (int p = 0; p < most; p++) {
                place = nextPlace(place, t.at(p), t.at(p - 1));
                if (place < 0) {
                    return p;
                }
            }
            return t.flawAtEnd(DAY_SIGNS, place == 2 || place >= 5);
        }

        private static int nextPlace(int place, int sign, int before) {
            switch (place) {
                case 0:
                    return placeBehind(sign);
                case 1:
                    return isLetter(sign) ? 2 : NONE;
                case 2:
                    if (isLetter(sign) && sign > before) {
                        return 2;
                    }
                    return sign == ';' ? 0 : NONE;
                case 3:
                    return isLetter(sign) ? 4 : NONE;
                case 4:
                    return sign == '-' || sign >= '0' && sign <= '9' ? 6 : NONE;
                case 5:
                    if (sign >= '1' && sign <= '9') {
                        return 6;
                    }
                    return sign == ';' ? 0 : NONE;
                default:
                    return sign == ';' ? 0 : NONE;
            }
        }

        private static int placeBehind(int act) {
            if (act == 'i' || act == 'o') {
                return 1;
            }
            if (act == 'w') {
                return 3;
            }
            return act == 'r' ? 5 : NONE;
        }

        private static boolean isLetter(int sign) {
            return sign >= 'a' && sign <= 'j';
        }

        /** Does the acts of a text without a flaw: whether all could be. */
        boolean live(House house, Moment now, Text t) {
            acts = 0;
            rides = 0;
            deeds = 0;
            int start = 0;
            for (int p = 0; p <= t.size && t.size > 0; p++) {
                if (p == t.size || t.at(p) == ';') {
                    if (!act(house, now, t, start, p)) {
                        return false;
                    }
                    acts++;
                    start = p + 1;
                }
            }
            return true;
        }

        private boolean act(House house, Moment now, Text t, int start, int behind) {
            switch (t.at(start)) {
                case 'i':
                case 'o':
                    return pass(now, t, start, behind);
                case 'w':
                    return wish(house, now, t.at(start + 1) - 'a', t.at(start + 2));
                default:
                    int times = start + 1 < behind ? t.at(start + 1) - '0' : 1;
                    for (int k = 0; k < times; k++) {
                        house.carry(now);
                        rides++;
                        deeds++;
                    }
                    return true;
            }
        }

        private boolean pass(Moment now, Text t, int start, int behind) {
            boolean inward = t.at(start) == 'i';
            for (int p = start + 1; p < behind; p++) {
                int rider = t.at(p) - 'a';
                if (inward ? !now.stands(rider) : !now.isIn(rider)) {
                    return false;
                }
                now.inside ^= 1 << rider;
                deeds++;
            }
            return true;
        }

        private boolean wish(House house, Moment now, int rider, int sign) {
            int wish = sign == '-' ? NONE : sign - '0';
            if (!house.hasRider(rider) || !house.canBeWish(wish)) {
                return false;
            }
            now.wish[rider] = wish;
            deeds++;
            return true;
        }
    }

    /** Stops that were seen, and whether wishes explain them. */
    private static final class Seen {
        static final int UNEXPLAINED = -2;
        private final int[] from = new int[MOST_SEEN];
        private final int[] those = new int[MOST_SEEN];
        private final int[] to = new int[MOST_SEEN];
        // Nobody is on any floor in it: those that are in are told with each stop, and nobody else is anywhere.
        private final Moment alone = new Moment();
        int size = 0;

        void add(int start, int riders, int stop) {
            if (size < MOST_SEEN) {
                from[size] = start;
                those[size] = riders;
                to[size] = stop;
                size++;
            }
        }

        /** From now on those wishes are the ones that are told. */
        void believe(int[] wishes) {
            System.arraycopy(wishes, 0, alone.wish, 0, MOST_RIDERS);
        }

        /** Those of what was seen that are not so (bits). */
        int notSo(House h) {
            int wrong = 0;
            for (int k = 0; k < size; k++) {
                alone.lift = from[k];
                wrong |= h.nextStop(alone, those[k]) == to[k] ? 0 : 1 << k;
            }
            return wrong;
        }

        boolean allSo(House h) {
            for (int k = 0; k < size; k++) {
                alone.lift = from[k];
                if (h.nextStop(alone, those[k]) != to[k]) {
                    return false;
                }
            }
            return true;
        }

        boolean allSoIf(House h, int rider, int wish) {
            int told = alone.wish[rider];
            alone.wish[rider] = wish;
            boolean so = allSo(h);
            alone.wish[rider] = told;
            return so;
        }

        /** The least wish of another one, not the one it tells, by which all is so besides that of a rider. */
        int otherWishSo(House h, int rider, int wish, int other) {
            int told = alone.wish[rider];
            int toldByOther = alone.wish[other];
            alone.wish[rider] = wish;
            int found = UNEXPLAINED;
            for (int w = NONE; w < h.floors && found == UNEXPLAINED; w++) {
                alone.wish[other] = w;
                if (w != toldByOther && allSo(h)) {
                    found = w;
                }
            }
            alone.wish[rider] = told;
            alone.wish[other] = toldByOther;
            return found;
        }

        /** Whether all is so by a rider's wish and perhaps another wish of one of the others. */
        boolean soWithOneMore(House h, int rider, int wish) {
            if (allSoIf(h, rider, wish)) {
                return true;
            }
            for (int other = 0; other < h.riders; other++) {
                if (other != rider && otherWishSo(h, rider, wish, other) != UNEXPLAINED) {
                    return true;
                }
            }
            return false;
        }
    }

    /** A search of plans: what can come, as it is found. */
    private static final class Search {
        private static final int SLOTS = 4096;
        private static final int WANT_NOTHING = 0;
        private static final int WANT_HOME = 1;
        private static final int WANT_GATHERED = 2;

        private final Moment moment = new Moment();
        private final long[] keys = new long[MOST_STATES];
        // Of each state the one it came from, and in the lowest bits who was in: one row is enough for both.
        private final int[] steps = new int[MOST_STATES];
        // In each slot the state's number and 1 more; 0 is an empty slot.
        private final int[] slots = new int[SLOTS];
        int found = 0;
        int rides = 0;
        boolean more = false;
        private int wanted = WANT_NOTHING;
        private int wantedThose = 0;
        private int wantedFloor = 0;

        void wantNothing() {
            wanted = WANT_NOTHING;
        }

        /** Those have to be at home. */
        void wantHome(int those) {
            wanted = WANT_HOME;
            wantedThose = those;
        }

        /** The lift has to be there with just those. */
        void wantGathered(int f, int those) {
            wanted = WANT_GATHERED;
            wantedFloor = f;
            wantedThose = those;
        }

        /** The number of the first state that is as is wanted, by so many rides at most, or NONE; rides: by how many. */
        int seek(House house, Moment start, int deepest) {
            Arrays.fill(slots, 0);
            found = 0;
            rides = 0;
            more = false;
            moment.copy(start);
            moment.rides = start.rides % DOG_RIDES;
            int goal = add(keyOf(moment), 0, 0);
            if (isWanted(goal)) {
                return goal;
            }
            goal = NONE;
            int behind = 0;
            for (int k = 0; k < MOST_STATES && k < found && goal == NONE && !more; k++) {
                // States lie in the order of their rides: behind the last of as many rides, one more is done.
                if (k == behind) {
                    if (rides >= deepest) {
                        return NONE;
                    }
                    rides++;
                    behind = found;
                }
                goal = goOnFrom(house, k);
            }
            return goal;
        }

        /** Finds what can come from a state by one ride: the first that is wanted, or NONE. */
        private int goOnFrom(House house, int state) {
            bringUp(keys[state]);
            int there = moment.onFloor(moment.lift);
            int sets = setsOf(there);
            int those = 0;
            for (int k = 0; k < sets && !more; k++) {
                int stop = house.nextStop(moment, those);
                int next = add(keyAfter(those, house.homeAt(those, stop), stop), state, those);
                if (isWanted(next)) {
                    return next;
                }
                those = nextSet(those, there);
            }
            return NONE;
        }

        // A key has a floor and 1 more (0: at home) of each rider in 4 bits, then the lift's floor, then the rides.
        private static long keyOf(Moment m) {
            long key = ((long) m.rides << 4) | m.lift;
            for (int i = MOST_RIDERS - 1; i >= 0; i--) {
                key = (key << 4) | (m.at[i] + 1);
            }
            return key;
        }

        private void bringUp(long key) {
            for (int i = 0; i < MOST_RIDERS; i++) {
                moment.at[i] = floorOf(key, i);
            }
            moment.lift = liftOf(key);
            moment.rides = (int) (key >>> (4 * MOST_RIDERS + 4));
        }

        private static int floorOf(long key, int rider) {
            return (int) ((key >>> (4 * rider)) & 15) - 1;
        }

        private static int liftOf(long key) {
            return (int) ((key >>> (4 * MOST_RIDERS)) & 15);
        }

        /** The key of what comes from the moment by a ride of those to a stop, where some of them are at home. */
        private long keyAfter(int those, int home, int stop) {
            long key = ((long) ((moment.rides + 1) % DOG_RIDES) << 4) | stop;
            for (int i = MOST_RIDERS - 1; i >= 0; i--) {
                int floor = ((those >> i) & 1) == 0 ? moment.at[i] : stop;
                key = (key << 4) | (((home >> i) & 1) == 0 ? floor + 1 : 0);
            }
            return key;
        }

        /** The number of a state that is new, or NONE: it is known, or there is no room. */
        private int add(long key, int parent, int those) {
            int slot = (int) ((key * 0x9E3779B97F4A7C15L) >>> 52) & (SLOTS - 1);
            for (int k = 0; k < SLOTS && slots[slot] != 0; k++) {
                if (keys[slots[slot] - 1] == key) {
                    return NONE;
                }
                slot = (slot + 1) & (SLOTS - 1);
            }
            if (found >= MOST_STATES) {
                more = true;
                return NONE;
            }
            keys[found] = key;
            steps[found] = (parent << MOST_RIDERS) | those;
            slots[slot] = found + 1;
            found++;
            return found - 1;
        }

        private boolean isState(int state) {
            return state >= 0 && state < found;
        }

        /** The state from which a state was found first. */
        int cameFrom(int state) {
            return isState(state) ? steps[state] >> MOST_RIDERS : 0;
        }

        /** Who was in, on the ride by which a state was found first (bits). */
        int taken(int state) {
            return isState(state) ? steps[state] & ((1 << MOST_RIDERS) - 1) : 0;
        }

        private boolean isWanted(int state) {
            if (!isState(state)) {
                return false;
            }
            long key = keys[state];
            if (wanted == WANT_HOME) {
                return (wantedThose & ~onFloor(key, NONE)) == 0;
            }
            return wanted == WANT_GATHERED && liftOf(key) == wantedFloor
                    && onFloor(key, wantedFloor) == wantedThose;
        }

        private static int onFloor(long key, int f) {
            int there = 0;
            for (int i = 0; i < MOST_RIDERS; i++) {
                there |= floorOf(key, i) == f ? 1 << i : 0;
            }
            return there;
        }

        /** Who is at home in some state (bits). */
        int everHome() {
            int home = 0;
            for (int k = 0; k < found; k++) {
                home |= onFloor(keys[k], NONE);
            }
            return home;
        }

        /** Floors on which the lift is in some state (bits). */
        int everStopped() {
            int stops = 0;
            for (int k = 0; k < found; k++) {
                stops |= 1 << liftOf(keys[k]);
            }
            return stops;
        }
    }
}
