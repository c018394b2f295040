/**
 * Lands that trade over tolls, and the unions they may form. What each call answers is told in the
 * document, as numbered promises; each public method names its own.
 */
public final class LandUnions {
    public static final int UNKNOWN = -1, OUTSIDE = -2, STATE = -3, FULL = -4, NO = -5, NONE = -6;
    public static final int LOST = -1000000000;

    private static final int MOST_LANDS = 6;
    private static final int MOST_SIGNS = 20;
    private static final int MOST_PARTINGS = 203;
    private static final int MOST_GOINGS = 500;

    private static final int WISH = 0, COST = 1, GAIN = 2, TOLL = 3;
    private static final int LEAST_COST = 1, MOST_COST = 99;
    /** The greatest cost, gain and wall together come to 179. */
    private static final int ABOVE_ALL_PRICES = 1000;
    private static final int JOIN = 1, CORE = 2, RESTS = 3;

    /** Where a land goes, if not to a union that is there. */
    private static final int APART = -1, NOWHERE = -2;

    /** How many partings there are of so many lands. */
    private static final int[] PARTINGS = {1, 1, 2, 5, 15, 52, 203};

    /**
     * In how many ways the last r lands can be put, if those ahead of them are in m unions: at
     * place 6 r + m.
     */
    private static final int[] WAYS = {
        1, 1, 1, 1, 1, 1,
        1, 2, 3, 4, 5, 6,
        2, 5, 10, 17, 26, 37,
        5, 15, 37, 77, 141, 235,
        15, 52, 151, 372, 799, 1540,
        52, 203, 674, 1915, 4736, 10427
    };

    /** Judges the lands as they are. */
    private final Judge judge = new Judge();
    /** Judges copies of the lands, so that a question never touches the lands themselves. */
    private final Judge trial = new Judge();
    private final Lands lands = judge.lands;
    private final Goods goods = judge.goods;
    private final Verdicts verdicts = new Verdicts();
    private final Journey journey = new Journey();
    private final Market market = new Market();
    private final Pad pad = new Pad();
    private final Parting parting = new Parting();
    private final Parting tried = new Parting();

    /** Promise 1. */
    public LandUnions() {
    }

    // ---- 1 lands, partings

    /** Promise 2. */
    public int land(int wish, int cost, int gain, int toll) {
        boolean told = Lands.fits(WISH, wish) && Lands.fits(COST, cost)
            && Lands.fits(GAIN, gain) && Lands.fits(TOLL, toll);
        if (!told) {
            return OUTSIDE;
        }
        if (lands.count >= MOST_LANDS) {
            return FULL;
        }
        int number = lands.add(wish, cost, gain, toll);
        parting.addApart();
        return number;
    }

    /** Promise 3. */
    public int change(int land, int what, int v) {
        if (!isLand(land)) {
            return UNKNOWN;
        }
        if (!Lands.fits(what, v)) {
            return OUTSIDE;
        }
        int was = lands.rowOf(what)[land];
        lands.put(what, land, v);
        return was;
    }

    /** Promise 4. */
    public int set(int which, int v) {
        if (which < 0 || which > 1 || v < 0 || v > 2) {
            return OUTSIDE;
        }
        int was = which == 0 ? lands.walls : lands.shares;
        if (which == 0) {
            lands.putWalls(v);
        } else {
            lands.putShares(v);
        }
        return was;
    }

    /** Promise 5. */
    public int say(int sign) {
        if (sign < 33 || sign > 126) {
            return OUTSIDE;
        }
        if (pad.count >= MOST_SIGNS) {
            return FULL;
        }
        pad.add(sign);
        return pad.count;
    }

    /** Promise 6. */
    public int wipe() {
        int were = pad.count;
        pad.count = 0;
        return were;
    }

    /** Promise 7. */
    public int fault() {
        return pad.firstFault(lands.count);
    }

    /** Promise 8. */
    public int part() {
        if (pad.firstFault(lands.count) != NONE) {
            return NO;
        }
        pad.putInto(parting);
        pad.count = 0;
        return parting.unions;
    }

    /** Promise 9. */
    public int union(int land) {
        return isLand(land) ? parting.row[land] : UNKNOWN;
    }

    // ---- 2 goods

    /** Promise 10. */
    public int of(int land, int what) {
        if (!isLand(land)) {
            return UNKNOWN;
        }
        if (what < 0 || what > 5) {
            return OUTSIDE;
        }
        market.reckon(lands, parting);
        switch (what) {
            case 0:
                return market.good[land];
            case 1:
                return market.price[land];
            case 2:
                return market.bought[land];
            case 3:
                return market.bought[land] > 0 ? market.seller[land] : NONE;
            case 4:
                return market.wall[land];
            default:
                return market.takings[land];
        }
    }

    /** Promise 11. */
    public int all(int what) {
        switch (what) {
            case 0:
                return goodsTogether(parting);
            case 1:
                return bestPlaced();
            case 2:
                return PARTINGS[lands.count];
            default:
                return OUTSIDE;
        }
    }

    private int goodsTogether(Parting p) {
        int row = goods.rowOf(p);
        int sum = 0;
        for (int l = 0; l < lands.count; l++) {
            sum += goods.at(row, l);
        }
        return sum;
    }

    private int bestPlaced() {
        int best = 0;
        tried.putAllTogether(lands.count);
        for (int i = 0; i < PARTINGS[lands.count]; i++) {
            best = Math.max(best, goodsTogether(tried));
            tried.advance();
        }
        return best;
    }

    // ---- 3 rests

    /** Promise 12. */
    public int breaks(int rest) {
        return isRest(rest) ? verdicts.firstBreaker(judge, rest, parting) : OUTSIDE;
    }

    /** Promise 13. */
    public int rests(int rest, int i, int land) {
        if (i != -1 && !isLand(land)) {
            return UNKNOWN;
        }
        if (!isRest(rest)) {
            return OUTSIDE;
        }
        int found = 0;
        tried.putAllTogether(lands.count);
        for (int k = 0; k < PARTINGS[lands.count]; k++) {
            if (verdicts.firstBreaker(judge, rest, tried) == NONE) {
                if (found == i) {
                    return tried.row[land];
                }
                found++;
            }
            tried.advance();
        }
        return i == -1 ? found : NONE;
    }

    // ---- 4 joinings, what lands should do

    /** Promise 14. */
    public int go(int land, int what) {
        if (!isLand(land)) {
            return UNKNOWN;
        }
        boolean ofLand = what >= 10 && what <= 15;
        if (what != 0 && what != 1 && !ofLand) {
            return OUTSIDE;
        }
        if (ofLand && !isLand(what - 10)) {
            return NONE;
        }
        journey.travel(judge, parting, land);
        if (ofLand) {
            return journey.at.row[what - 10];
        }
        return what == 0 ? journey.goings : journey.ring;
    }

    /** Promise 15. */
    public int whole(int what) {
        if (what < 0 || what > 2) {
            return OUTSIDE;
        }
        tried.putAllApart(lands.count);
        int apart = goods.rowOf(tried);
        tried.putAllTogether(lands.count);
        int together = goods.rowOf(tried);
        int needs = 0;
        int spare = 0;
        for (int l = 0; l < lands.count; l++) {
            int more = goods.at(together, l) - goods.at(apart, l);
            needs += Math.max(0, -more);
            spare += Math.max(0, more);
        }
        if (what == 2) {
            return needs <= spare ? 1 : 0;
        }
        return what == 0 ? needs : spare;
    }

    /** Promise 16. */
    public int rules() {
        int bits = 0;
        trial.lands.copy(lands);
        for (int shares = 0; shares <= 2; shares++) {
            trial.lands.putShares(shares);
            if (trial.stayBreaker(parting) == NONE) {
                bits |= 1 << shares;
            }
        }
        return bits;
    }

    /** Promise 17. */
    public int propose(int land, int what) {
        if (!isLand(land)) {
            return UNKNOWN;
        }
        if (what < 0 || what > 1) {
            return OUTSIDE;
        }
        int best = NONE;
        int bestGood = NONE;
        for (int set = 1; set < 1 << lands.count; set++) {
            if ((set >> land & 1) == 1 && judge.wouldAllGain(parting, set)) {
                int good = judge.goodGathered(parting, set, land);
                if (good > bestGood) {
                    best = set;
                    bestGood = good;
                }
            }
        }
        return what == 0 ? best : bestGood;
    }

    /** Promise 18. */
    public int enter(int land, int union, int what) {
        if (!isLand(land)) {
            return LOST + UNKNOWN;
        }
        if (!isUnion(union) || parting.row[land] == union || what < 0 || what > 1) {
            return LOST + OUTSIDE;
        }
        tried.copy(parting);
        tried.move(land, union);
        int now = goods.rowOf(parting);
        int then = goods.rowOf(tried);
        if (what == 0) {
            return goods.at(then, land) - goods.at(now, land);
        }
        int theirs = 0;
        for (int l = 0; l < lands.count; l++) {
            if (parting.row[l] == union) {
                theirs += goods.at(then, l) - goods.at(now, l);
            }
        }
        return theirs;
    }

    /** Promise 19. */
    public int holds() {
        int most = 0;
        for (int l = 0; l < lands.count; l++) {
            most = Math.max(most, judge.gainByLeaving(parting, l));
        }
        return most;
    }

    /** Promise 20. */
    public int hurt(int union) {
        if (!isUnion(union)) {
            return OUTSIDE;
        }
        tried.copy(parting);
        tried.scatter(union);
        int now = goods.rowOf(parting);
        int without = goods.rowOf(tried);
        int bits = 0;
        for (int l = 0; l < lands.count; l++) {
            if (parting.row[l] != union && goods.at(now, l) < goods.at(without, l)) {
                bits |= 1 << l;
            }
        }
        return bits;
    }

    /** Promise 21. */
    public int edge(int land) {
        if (!isLand(land)) {
            return UNKNOWN;
        }
        boolean stays = judge.stayBreaker(parting) == NONE;
        int cost = lands.cost[land];
        trial.lands.copy(lands);
        for (int far = 1; far <= MOST_COST - LEAST_COST; far++) {
            if (turnsStay(land, cost - far, stays)) {
                return cost - far;
            }
            if (turnsStay(land, cost + far, stays)) {
                return cost + far;
            }
        }
        return NONE;
    }

    private boolean turnsStay(int land, int cost, boolean stays) {
        if (!Lands.fits(COST, cost)) {
            return false;
        }
        trial.lands.put(COST, land, cost);
        return (trial.stayBreaker(parting) == NONE) != stays;
    }

    /** Promise 22. */
    public int told(int what) {
        if (what >= 10 && what <= 15) {
            return isLand(what - 10) ? lands.cost[what - 10] : NONE;
        }
        switch (what) {
            case 0:
                return lands.count;
            case 1:
                return pad.count;
            case 2:
                return lands.walls;
            case 3:
                return lands.shares;
            case 4:
                return parting.unions;
            default:
                return OUTSIDE;
        }
    }

    private boolean isLand(int land) {
        return land >= 0 && land < lands.count;
    }

    private boolean isUnion(int union) {
        return union >= 0 && union < parting.unions;
    }

    private static boolean isRest(int rest) {
        return rest >= 0 && rest < RESTS;
    }

    /** The lands and the two rules. */
    private static final class Lands {
        int count;
        int walls;
        int shares;
        /** Rises with each change, so that what was reckoned before is known to be stale. */
        int version = 1;
        final int[] wish = new int[MOST_LANDS];
        final int[] cost = new int[MOST_LANDS];
        final int[] gain = new int[MOST_LANDS];
        final int[] toll = new int[MOST_LANDS];

        /** False too if there is no such number of a land. */
        static boolean fits(int what, int v) {
            switch (what) {
                case WISH:
                    return v >= 1 && v <= 99;
                case COST:
                    return v >= LEAST_COST && v <= MOST_COST;
                case GAIN:
                    return v >= 0 && v <= 20;
                case TOLL:
                    return v >= 0 && v <= 60;
                default:
                    return false;
            }
        }

        int[] rowOf(int what) {
            switch (what) {
                case WISH:
                    return wish;
                case COST:
                    return cost;
                case GAIN:
                    return gain;
                default:
                    return toll;
            }
        }

        /** The caller has seen that there is room. */
        int add(int itsWish, int itsCost, int itsGain, int itsToll) {
            int number = count;
            wish[number] = itsWish;
            cost[number] = itsCost;
            gain[number] = itsGain;
            toll[number] = itsToll;
            count++;
            version++;
            return number;
        }

        void put(int what, int land, int v) {
            rowOf(what)[land] = v;
            version++;
        }

        void putWalls(int v) {
            walls = v;
            version++;
        }

        void putShares(int v) {
            shares = v;
            version++;
        }

        /** The version goes on from its own, not from the other's: it must never come again. */
        void copy(Lands from) {
            count = from.count;
            walls = from.walls;
            shares = from.shares;
            for (int l = 0; l < MOST_LANDS; l++) {
                wish[l] = from.wish[l];
                cost[l] = from.cost[l];
                gain[l] = from.gain[l];
                toll[l] = from.toll[l];
            }
            version++;
        }
    }

    /** Which union each land is in; unions are numbered by their least lands. */
    private static final class Parting {
        int count;
        int unions;
        final int[] row = new int[MOST_LANDS];
        private final int[] fresh = new int[MOST_LANDS];

        /** The caller has seen that there is room. */
        void addApart() {
            row[count] = unions;
            count++;
            unions++;
        }

        void putAllApart(int lands) {
            count = lands;
            unions = lands;
            for (int l = 0; l < lands; l++) {
                row[l] = l;
            }
        }

        /** The first of all partings. */
        void putAllTogether(int lands) {
            count = lands;
            unions = Math.min(lands, 1);
            for (int l = 0; l < lands; l++) {
                row[l] = 0;
            }
        }

        void copy(Parting from) {
            count = from.count;
            unions = from.unions;
            for (int l = 0; l < count; l++) {
                row[l] = from.row[l];
            }
        }

        void leave(int land) {
            row[land] = -1;
            number();
        }

        void move(int land, int union) {
            row[land] = union;
            number();
        }

        /** Puts a set of lands, as bits, into one union. */
        void gather(int set) {
            for (int l = 0; l < count; l++) {
                if ((set >> l & 1) == 1) {
                    row[l] = -1;
                }
            }
            number();
        }

        void scatter(int union) {
            for (int l = 0; l < count; l++) {
                if (row[l] == union) {
                    row[l] = -1 - l;
                }
            }
            number();
        }

        /** Lands with like numbers are in one union, whatever the numbers: numbers them anew. */
        void number() {
            unions = 0;
            for (int l = 0; l < count; l++) {
                int first = firstLike(l);
                if (first == l) {
                    fresh[l] = unions;
                    unions++;
                } else {
                    fresh[l] = fresh[first];
                }
            }
            for (int l = 0; l < count; l++) {
                row[l] = fresh[l];
            }
        }

        private int firstLike(int land) {
            for (int l = 0; l < land; l++) {
                if (row[l] == row[land]) {
                    return l;
                }
            }
            return land;
        }

        /** The next of all partings, in order; the last one stays. */
        void advance() {
            for (int l = count - 1; l > 0; l--) {
                int before = unionsAhead(l);
                if (row[l] < before) {
                    row[l]++;
                    for (int k = l + 1; k < count; k++) {
                        row[k] = 0;
                    }
                    unions = unionsAhead(count);
                    return;
                }
            }
        }

        private int unionsAhead(int land) {
            int most = -1;
            for (int l = 0; l < land; l++) {
                most = Math.max(most, row[l]);
            }
            return most + 1;
        }

        /** How many partings are ahead of it in the order of all: below 203. */
        int place() {
            int place = 0;
            int ahead = 0;
            for (int l = 0; l < count; l++) {
                place += row[l] * WAYS[(count - 1 - l) * MOST_LANDS + ahead];
                if (row[l] == ahead) {
                    ahead++;
                }
            }
            return place;
        }
    }

    /** The signs said, and how they are read. */
    private static final class Pad {
        int count;
        private final int[] signs = new int[MOST_SIGNS];

        /** The caller has seen that there is room. */
        void add(int sign) {
            signs[count] = sign;
            count++;
        }

        int firstFault(int lands) {
            if (lands == 0) {
                return 0;
            }
            int every = (1 << lands) - 1;
            int been = 0;
            boolean behindLetter = false;
            for (int i = 0; i < count; i++) {
                if (signs[i] == '|') {
                    if (!behindLetter || been == every) {
                        return i;
                    }
                    behindLetter = false;
                } else {
                    int land = signs[i] - 'a';
                    if (land < 0 || land >= lands || (been >> land & 1) == 1) {
                        return i;
                    }
                    been |= 1 << land;
                    behindLetter = true;
                }
            }
            return been == every ? NONE : count;
        }

        /** Only if there is no fault. */
        void putInto(Parting parting) {
            int union = 0;
            for (int i = 0; i < count; i++) {
                int land = signs[i] - 'a';
                if (signs[i] == '|') {
                    union++;
                } else if (land >= 0 && land < parting.count) {
                    parting.row[land] = union;
                }
            }
            parting.number();
        }
    }

    /** What each land buys, takes and has in a parting. */
    private static final class Market {
        final int[] wall = new int[MOST_LANDS];
        final int[] price = new int[MOST_LANDS];
        final int[] seller = new int[MOST_LANDS];
        final int[] bought = new int[MOST_LANDS];
        final int[] takings = new int[MOST_LANDS];
        final int[] good = new int[MOST_LANDS];

        void reckon(Lands lands, Parting p) {
            for (int l = 0; l < lands.count; l++) {
                wall[l] = wallAround(lands, p, l);
                buy(lands, p, l);
                boolean over = p.row[seller[l]] != p.row[l];
                takings[l] = over ? wall[l] * bought[l] : 0;
            }
            if (lands.shares != 0) {
                for (int u = 0; u < p.unions; u++) {
                    shareOut(lands, p, u);
                }
            }
            for (int l = 0; l < lands.count; l++) {
                good[l] = bought[l] * bought[l] + 2 * takings[l];
            }
            for (int l = 0; l < lands.count; l++) {
                int from = seller[l];
                good[from] += 2 * lands.gain[from] * bought[l];
            }
        }

        /** Of one alone all three rules answer its own toll. */
        private int wallAround(Lands lands, Parting p, int land) {
            int least = lands.toll[land];
            int most = lands.toll[land];
            int sum = 0;
            int members = 0;
            for (int l = 0; l < lands.count; l++) {
                if (p.row[l] == p.row[land]) {
                    int toll = lands.toll[l];
                    least = toll < least ? toll : least;
                    most = toll > most ? toll : most;
                    sum += toll;
                    members++;
                }
            }
            if (lands.walls == 0) {
                return least;
            }
            if (lands.walls == 1) {
                return most;
            }
            return members > 0 ? sum / members : 0;
        }

        private void buy(Lands lands, Parting p, int land) {
            int cheapest = land;
            int least = ABOVE_ALL_PRICES;
            for (int l = 0; l < lands.count; l++) {
                int asked = lands.cost[l] + lands.gain[l];
                if (p.row[l] != p.row[land]) {
                    asked += wall[land];
                }
                if (asked < least) {
                    least = asked;
                    cheapest = l;
                }
            }
            price[land] = least;
            seller[land] = cheapest;
            bought[land] = lands.wish[land] > least ? lands.wish[land] - least : 0;
        }

        private void shareOut(Lands lands, Parting p, int union) {
            boolean alike = lands.shares == 1;
            int sum = 0;
            int weights = 0;
            for (int l = 0; l < lands.count; l++) {
                if (p.row[l] == union) {
                    sum += takings[l];
                    weights += alike ? 1 : lands.wish[l];
                }
            }
            if (weights <= 0) {
                return;
            }
            int left = sum;
            for (int l = 0; l < lands.count; l++) {
                if (p.row[l] == union) {
                    takings[l] = sum * (alike ? 1 : lands.wish[l]) / weights;
                    left -= takings[l];
                }
            }
            for (int l = 0; l < lands.count && left > 0; l++) {
                if (p.row[l] == union) {
                    takings[l]++;
                    left--;
                }
            }
        }
    }

    /** The goods in every parting, each reckoned when first asked for and kept till a change. */
    private static final class Goods {
        final Lands lands = new Lands();
        private final Market market = new Market();
        private final int[] reckonedAt = new int[MOST_PARTINGS];
        private final int[] kept = new int[MOST_PARTINGS * MOST_LANDS];

        /** Where the goods of a parting begin, to ask with. */
        int rowOf(Parting p) {
            int place = p.place();
            int begin = place * MOST_LANDS;
            if (reckonedAt[place] != lands.version) {
                market.reckon(lands, p);
                for (int l = 0; l < lands.count; l++) {
                    kept[begin + l] = market.good[l];
                }
                reckonedAt[place] = lands.version;
            }
            return begin;
        }

        int at(int begin, int land) {
            return kept[begin + land];
        }
    }

    /** What lands and sets of lands would gain by moving, and so what breaks a parting. */
    private static final class Judge {
        final Goods goods = new Goods();
        final Lands lands = goods.lands;
        private final Parting tried = new Parting();

        int gainByLeaving(Parting p, int land) {
            tried.copy(p);
            tried.leave(land);
            return goods.at(goods.rowOf(tried), land) - goods.at(goods.rowOf(p), land);
        }

        /** 0 if one of that union would have less: it does not let the land in. */
        int gainByJoining(Parting p, int land, int union) {
            tried.copy(p);
            tried.move(land, union);
            int now = goods.rowOf(p);
            int then = goods.rowOf(tried);
            for (int l = 0; l < lands.count; l++) {
                if (p.row[l] == union && goods.at(then, l) < goods.at(now, l)) {
                    return 0;
                }
            }
            return goods.at(then, land) - goods.at(now, land);
        }

        /** Of a union that is there none gains: gathering it leaves the parting as it is. */
        boolean wouldAllGain(Parting p, int set) {
            tried.copy(p);
            tried.gather(set);
            int now = goods.rowOf(p);
            int then = goods.rowOf(tried);
            for (int l = 0; l < lands.count; l++) {
                if ((set >> l & 1) == 1 && goods.at(then, l) <= goods.at(now, l)) {
                    return false;
                }
            }
            return true;
        }

        int goodGathered(Parting p, int set, int land) {
            tried.copy(p);
            tried.gather(set);
            return goods.at(goods.rowOf(tried), land);
        }

        int stayBreaker(Parting p) {
            for (int l = 0; l < lands.count; l++) {
                if (gainByLeaving(p, l) > 0) {
                    return l;
                }
            }
            return NONE;
        }

        /** Only of a parting at STAY. */
        int joinBreaker(Parting p) {
            for (int l = 0; l < lands.count; l++) {
                for (int u = 0; u < p.unions; u++) {
                    if (p.row[l] != u && gainByJoining(p, l, u) > 0) {
                        return 100 + 10 * l + u;
                    }
                }
            }
            return NONE;
        }

        int coreBreaker(Parting p) {
            for (int set = 1; set < 1 << p.count; set++) {
                if (wouldAllGain(p, set)) {
                    return 1000 + set;
                }
            }
            return NONE;
        }

        /** Where a land has most, if that is more than now: a union, APART or NOWHERE. */
        int bestGoal(Parting p, int land) {
            int goal = NOWHERE;
            int most = 0;
            int gain = gainByLeaving(p, land);
            if (gain > most) {
                goal = APART;
                most = gain;
            }
            for (int u = 0; u < p.unions; u++) {
                if (p.row[land] != u) {
                    gain = gainByJoining(p, land, u);
                    if (gain > most) {
                        goal = u;
                        most = gain;
                    }
                }
            }
            return goal;
        }
    }

    /** The first breakers of every parting, each sought when first asked for and kept till a change. */
    private static final class Verdicts {
        private final int[] soughtAt = new int[RESTS * MOST_PARTINGS];
        private final int[] kept = new int[RESTS * MOST_PARTINGS];

        int firstBreaker(Judge judge, int rest, Parting p) {
            int place = rest * MOST_PARTINGS + p.place();
            if (soughtAt[place] != judge.lands.version) {
                int breaker = rest == CORE ? judge.coreBreaker(p) : judge.stayBreaker(p);
                if (rest == JOIN && breaker == NONE) {
                    breaker = judge.joinBreaker(p);
                }
                kept[place] = breaker;
                soughtAt[place] = judge.lands.version;
            }
            return kept[place];
        }
    }

    /** Goings one after another, to a rest or round in a ring. */
    private static final class Journey {
        final Parting at = new Parting();
        int goings;
        /** 0 at a rest, else how many goings the ring takes, -1 if neither came. */
        int ring;
        private int next;
        private int goer;
        private int goal;
        private final int[] seen = new int[MOST_GOINGS + 1];

        void travel(Judge judge, Parting from, int land) {
            at.copy(from);
            next = land;
            ring = -1;
            for (int done = 0; done <= MOST_GOINGS; done++) {
                goings = done;
                int before = firstSeen(where(), done);
                if (before >= 0) {
                    ring = done - before;
                    return;
                }
                seen[done] = where();
                if (!findGoer(judge)) {
                    ring = 0;
                    return;
                }
                if (done < MOST_GOINGS) {
                    step();
                }
            }
        }

        /** The parting and the land that is next, as one number. */
        private int where() {
            return at.place() * MOST_LANDS + next;
        }

        private int firstSeen(int here, int howMany) {
            for (int i = 0; i < howMany; i++) {
                if (seen[i] == here) {
                    return i;
                }
            }
            return -1;
        }

        private boolean findGoer(Judge judge) {
            goer = next;
            for (int k = 0; k < at.count; k++) {
                goal = judge.bestGoal(at, goer);
                if (goal != NOWHERE) {
                    return true;
                }
                goer = behind(goer);
            }
            return false;
        }

        private void step() {
            if (goal == APART) {
                at.leave(goer);
            } else {
                at.move(goer, goal);
            }
            next = behind(goer);
        }

        private int behind(int land) {
            return land + 1 < at.count ? land + 1 : 0;
        }
    }
}
