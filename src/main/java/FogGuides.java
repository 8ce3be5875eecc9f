/**
 * Led by the blind through a town in fog: the town is told by a text, one is led or walks alone,
 * and the ways, what was felt, a guide's day and the rates of guides are asked for.
 */
public final class FogGuides {
    public static final int BAD = -1, STATE = -2, FULL = -3, NONE = -9;
    public static final int NO = -1000000;

    private static final int MOST_CORNERS = 7, MOST_STREETS = 9, MOST_GUIDES = 4, MOST_BELLS = 8;
    private static final int MOST_BYTES = 200, MOST_MARKS = 6, MOST_WISHES = 4, MOST_UNDONE = 10;
    private static final int LAST_MARK = 3, LAST_MINUTE = 9999, MOST_PAID = 99999;
    private static final int MOST_WAIT = 99, MOST_FEE = 999, MOST_WORTH = 99, LONGEST_DAY = 99;
    private static final int LONGEST_LENGTH = 9, LONGEST_BY_BELLS = 500, BELL_MINUTES = 10;
    private static final int FIRST_HAND = 1, IMAGES = 2, KINDS = 6;
    private static final int GUIDE = 0, ECHO = 1, TOUCH = 2, BELL = 3, DEAF = 4, DOG = 5;
    private static final int[] TRACES = {1, 10, 100, 1000, 10000, 100000};

    private final TextReader reader;
    private TownMap map;
    // A text is read into this one, so that a fault leaves the other as it was.
    private TownMap spareMap;
    private final Tale tale;
    private final Tale[] images;
    private final boolean[] kept;
    private final Routes routes;
    private final Touches touches;
    private final WishList wishList;
    private long asked;

    public FogGuides() {
        reader = new TextReader();
        map = new TownMap();
        spareMap = new TownMap();
        tale = new Tale();
        images = new Tale[] {new Tale(), new Tale()};
        kept = new boolean[IMAGES];
        routes = new Routes();
        touches = new Touches();
        wishList = new WishList();
        asked = 0;
    }

    // ---- the town

    public int type(int c) {
        if (c < 0 || c > 255) return BAD;
        return reader.put(c) ? reader.length : FULL;
    }

    public int clear() {
        int had = reader.length;
        reader.length = 0;
        return had;
    }

    public int town() {
        int items = reader.readInto(spareMap);
        if (items < 0) return items;
        TownMap old = map;
        map = spareMap;
        spareMap = old;
        reader.length = 0;
        tale.startAnew();
        touches.forgetAll();
        wishList.size = 0;
        for (int i = 0; i < IMAGES; i++) kept[i] = false;
        return items;
    }

    public int corner(int c) {
        return map.hasCorner(c) ? map.marks[c] : BAD;
    }

    public int street(int s, int what) {
        if (!map.hasStreet(s)) return BAD;
        switch (what) {
            case 0: return map.ends[s];
            case 1: return map.farEnds[s];
            case 2: return map.lengths[s];
            default: return BAD;
        }
    }

    public int guide(int g, int what) {
        if (!map.hasGuide(g)) return BAD;
        switch (what) {
            case 0: return map.paces[g];
            case 1: return map.fees[g];
            case 2: return map.knows[g];
            case 3: return map.his[g];
            default: return BAD;
        }
    }

    public int fog(int minute) {
        if (minute < 0 || minute > LAST_MINUTE) return BAD;
        return map.isThick(minute) ? 1 : 0;
    }

    // ---- what is done

    public int hires(int g) {
        if (!map.hasGuide(g)) return BAD;
        if (!mayHire(g)) return STATE;
        int pause = tale.leader == NONE ? 0 : map.hand;
        tale.step(tale.corner, pause, 0, g);
        return tale.minute;
    }

    public int leaves() {
        int led = tale.leader;
        if (led == NONE) return STATE;
        tale.step(tale.corner, 0, 0, NONE);
        return led;
    }

    public int leads(int s) {
        if (!map.hasStreet(s)) return BAD;
        if (!mayBeLed(s)) return STATE;
        int minutes = map.ledMinutes(tale.leader, s);
        tale.step(map.acrossFrom(s, tale.corner), minutes, map.fees[tale.leader] * minutes, tale.leader);
        return tale.corner;
    }

    public int alone(int s) {
        if (!map.hasStreet(s)) return BAD;
        if (!mayWalkAlone(s)) return STATE;
        tale.step(map.acrossFrom(s, tale.corner), map.lengths[s], 0, NONE);
        return tale.corner;
    }

    public int waits(int n) {
        if (n < 1 || n > MOST_WAIT) return BAD;
        if (tale.minute + n > LAST_MINUTE) return STATE;
        tale.step(tale.corner, n, 0, tale.leader);
        return tale.minute;
    }

    public int undo() {
        return tale.takeBack() ? tale.undoable : STATE;
    }

    public int now(int what) {
        switch (what) {
            case 0: return map.cornerCount > 0 ? tale.corner : NONE;
            case 1: return tale.minute;
            case 2: return tale.paid;
            case 3: return tale.leader;
            case 4: return streetsOpen();
            case 5: return guidesToHire();
            default: return BAD;
        }
    }

    private boolean mayHire(int g) {
        if (map.cornerCount == 0 || tale.leader == g || !map.isHis(g, tale.corner)) return false;
        if (tale.leader == NONE) return true;
        return map.isHis(tale.leader, tale.corner) && tale.minute + map.hand <= LAST_MINUTE;
    }

    private boolean mayBeLed(int s) {
        int leader = tale.leader;
        if (!map.knowsStreet(leader, s) || !map.isAt(s, tale.corner)) return false;
        int minutes = map.ledMinutes(leader, s);
        return tale.minute + minutes <= LAST_MINUTE && tale.paid + map.fees[leader] * minutes <= MOST_PAID;
    }

    private boolean mayWalkAlone(int s) {
        if (tale.leader != NONE || !map.isAt(s, tale.corner)) return false;
        int minutes = map.lengths[s];
        return tale.minute + minutes <= LAST_MINUTE && map.thinFrom(tale.minute) >= minutes;
    }

    private int streetsOpen() {
        boolean led = tale.leader != NONE;
        int bits = 0;
        for (int s = 0; s < map.streetCount; s++) {
            if (led ? mayBeLed(s) : mayWalkAlone(s)) bits |= 1 << s;
        }
        return bits;
    }

    private int guidesToHire() {
        int bits = 0;
        for (int g = 0; g < map.guideCount; g++) {
            if (mayHire(g)) bits |= 1 << g;
        }
        return bits;
    }

    // ---- ways

    public int soonest(int from, int to, int what) {
        return routeAnswer(from, to, what, true);
    }

    public int cheapest(int from, int to, int what) {
        return routeAnswer(from, to, what, false);
    }

    private int routeAnswer(int from, int to, int what, boolean soon) {
        if (!map.hasCorner(from) || !map.hasCorner(to) || what < 0 || what > 2) return BAD;
        if (from == to) return what == 2 ? NONE : 0;
        routes.find(map, from, to, soon);
        switch (what) {
            case 0: return routes.minutes;
            case 1: return routes.paid;
            default: return routes.first;
        }
    }

    public int byOne(int from, int to) {
        if (!map.hasCorner(from) || !map.hasCorner(to)) return BAD;
        int bits = 0;
        for (int g = 0; g < map.guideCount; g++) {
            if (!map.isHis(g, from)) continue;
            int reached = map.reachedBy(map.knows[g], 1 << from);
            if ((reached >> to & 1) == 1) bits |= 1 << g;
        }
        return bits;
    }

    public int forFee(int from, int to, int fee) {
        if (!map.hasCorner(from) || !map.hasCorner(to) || fee < 0 || fee > MOST_FEE) return BAD;
        int bits = 0;
        for (int g = 0; g < map.guideCount; g++) {
            if (map.isHis(g, from) && map.canLeadFor(g, from, to, fee)) bits |= 1 << g;
        }
        return bits;
    }

    public int byBells(int from, int minute, int to) {
        if (!map.hasCorner(from) || !map.hasCorner(to)) return BAD;
        if (minute < 0 || minute > LAST_MINUTE) return BAD;
        return routes.minutesAlone(map, from, minute, to);
    }

    public int taught(int g, int what) {
        if (!map.hasGuide(g) || what < 0 || what > 1) return BAD;
        int best = NONE;
        int most = NONE;
        for (int s = 0; s < map.streetCount; s++) {
            if (map.knowsStreet(g, s)) continue;
            int reached = Integer.bitCount(map.reachedBy(map.knows[g] | 1 << s, map.his[g]));
            if (reached > most) {
                most = reached;
                best = s;
            }
        }
        return what == 0 ? best : most;
    }

    // ---- what was felt

    public int feels(int mark) {
        if (mark < 0 || mark > LAST_MARK) return BAD;
        return touches.addMark(mark) ? touches.felt : FULL;
    }

    public int went(int c) {
        if (!map.hasCorner(c)) return BAD;
        if (touches.walked > 0 && (map.nextTo(touches.lastWalked()) >> c & 1) == 0) return STATE;
        return touches.addCorner(c) ? touches.walked : FULL;
    }

    public int forget() {
        int both = touches.felt + touches.walked;
        touches.forgetAll();
        return both;
    }

    public int fits(int what) {
        switch (what) {
            case 0: return touches.rowCount(map);
            case 1: return touches.lastCorners(map);
            case 2: return touches.firstCorners(map);
            case 3: return map.marksAround(touches.lastCorners(map));
            default: return BAD;
        }
    }

    public int falseMark() {
        if (touches.felt != touches.walked) return 0;
        int bits = 0;
        for (int c = 0; c < map.cornerCount; c++) {
            if (touches.isOnlyFalse(map, c)) bits |= 1 << c;
        }
        return bits;
    }

    // ---- a day

    public int wishes(int from, int to, int worth) {
        if (!map.hasCorner(from) || !map.hasCorner(to) || from == to) return BAD;
        if (worth < 0 || worth > MOST_WORTH) return BAD;
        return wishList.add(from, to, worth) ? wishList.size : FULL;
    }

    public int grants() {
        int were = wishList.size;
        wishList.size = 0;
        return were;
    }

    public int day(int g, int from, int n, int what) {
        if (!map.hasGuide(g) || !map.hasCorner(from) || !map.isHis(g, from)) return BAD;
        if (n < 0 || n > LONGEST_DAY || what < 0 || what > 1) return BAD;
        wishList.findBestDay(map, g, from, n);
        return what == 0 ? wishList.bestWorth : wishList.bestSet;
    }

    // ---- kinds, images

    public int rate(int kind, int g) {
        if (kind < 0 || kind >= KINDS || !map.hasGuide(g)) return NO;
        return rateAs(kind, g, 0);
    }

    private int rateAs(int kind, int g, int depth) {
        if (depth >= KINDS || kind < 0 || kind >= KINDS) return 0;
        asked += TRACES[kind];
        switch (kind) {
            case ECHO: return rateAs(GUIDE, g, depth + 1) + map.paces[g];
            case TOUCH: return rateAs(GUIDE, g, depth + 1) - Integer.bitCount(map.knows[g]);
            case BELL: return rateAs(ECHO, g, depth + 1) * 2;
            case DEAF: return rateAs(TOUCH, g, depth + 1) + Integer.bitCount(map.his[g]);
            case DOG: return rateAs(GUIDE, g, depth + 1) + tale.minute;
            default: return map.fees[g];
        }
    }

    public int keep(int image) {
        if (image < 0 || image >= IMAGES) return BAD;
        images[image].become(tale);
        kept[image] = true;
        return tale.minute;
    }

    public int back(int image) {
        if (image < 0 || image >= IMAGES) return BAD;
        if (!kept[image]) return STATE;
        tale.become(images[image]);
        return tale.minute;
    }

    public int count(int what) {
        switch (what) {
            case 0: return map.cornerCount;
            case 1: return map.streetCount;
            case 2: return map.guideCount;
            case 3: return map.hand;
            case 4: return map.bellCount;
            case 5: return touches.felt;
            case 6: return touches.walked;
            case 7: return wishList.size;
            case 8: return tale.undoable;
            case 9: return reader.length;
            default: return BAD;
        }
    }

    public long trace() {
        return asked;
    }

    /** The town as told, and what can be said of it alone. */
    private static final class TownMap {
        int cornerCount, streetCount, guideCount, bellCount, hand;
        boolean handTold;
        final int[] marks, ends, farEnds, lengths, paces, fees, knows, his, bells;

        TownMap() {
            marks = new int[MOST_CORNERS];
            ends = new int[MOST_STREETS];
            farEnds = new int[MOST_STREETS];
            lengths = new int[MOST_STREETS];
            paces = new int[MOST_GUIDES];
            fees = new int[MOST_GUIDES];
            knows = new int[MOST_GUIDES];
            his = new int[MOST_GUIDES];
            bells = new int[MOST_BELLS];
            hand = FIRST_HAND;
        }

        void empty() {
            cornerCount = 0;
            streetCount = 0;
            guideCount = 0;
            bellCount = 0;
            hand = FIRST_HAND;
            handTold = false;
        }

        /** A guide may be told ahead of the streets and corners he has, so this waits for the text's end. */
        void dropWhatIsNotThere() {
            for (int g = 0; g < guideCount; g++) {
                knows[g] &= (1 << streetCount) - 1;
                his[g] &= (1 << cornerCount) - 1;
            }
        }

        boolean hasCorner(int c) {
            return c >= 0 && c < cornerCount;
        }

        boolean hasStreet(int s) {
            return s >= 0 && s < streetCount;
        }

        boolean hasGuide(int g) {
            return g >= 0 && g < guideCount;
        }

        boolean isHis(int g, int c) {
            return hasGuide(g) && hasCorner(c) && (his[g] >> c & 1) == 1;
        }

        boolean knowsStreet(int g, int s) {
            return hasGuide(g) && hasStreet(s) && (knows[g] >> s & 1) == 1;
        }

        boolean isAt(int s, int c) {
            return ends[s] == c || farEnds[s] == c;
        }

        int acrossFrom(int s, int c) {
            return ends[s] == c ? farEnds[s] : ends[s];
        }

        int ledMinutes(int g, int s) {
            return lengths[s] + paces[g];
        }

        boolean isThick(int minute) {
            if (bellCount < 1 || minute < 0) return true;
            return bells[minute / BELL_MINUTES % bellCount] == 1;
        }

        /** For how many minutes from this one on it is thin, counted no further than the longest street. */
        int thinFrom(int minute) {
            int thin = 0;
            while (thin < LONGEST_LENGTH && !isThick(minute + thin)) thin++;
            return thin;
        }

        /** The corners, as bits, that streets lead to from this one. */
        int nextTo(int c) {
            int bits = 0;
            for (int s = 0; s < streetCount; s++) {
                if (isAt(s, c)) bits |= 1 << acrossFrom(s, c);
            }
            return bits;
        }

        /** The corners, as bits, that can be come to by these streets from these corners. */
        int reachedBy(int streets, int corners) {
            int reached = corners;
            for (int round = 0; round < MOST_CORNERS; round++) {
                for (int s = 0; s < streetCount; s++) {
                    int both = 1 << ends[s] | 1 << farEnds[s];
                    if ((streets >> s & 1) == 1 && (reached & both) != 0) reached |= both;
                }
            }
            return reached;
        }

        boolean canLeadFor(int g, int from, int to, int fee) {
            return leadsFor(g, from, to, fee, 0, 0);
        }

        /** Whether he leads on from here to the goal, over none of the corners met, for just this fee. */
        private boolean leadsFor(int g, int here, int goal, int fee, int met, int depth) {
            if (fee < 0 || depth >= MOST_CORNERS) return false;
            if (here == goal) return fee == 0;
            int metNow = met | 1 << here;
            for (int s = 0; s < streetCount; s++) {
                if (!knowsStreet(g, s) || !isAt(s, here)) continue;
                int there = acrossFrom(s, here);
                if ((metNow >> there & 1) == 1) continue;
                if (leadsFor(g, there, goal, fee - fees[g] * ledMinutes(g, s), metNow, depth + 1)) return true;
            }
            return false;
        }

        /** How many unlike marks would be felt one street further on from these corners. */
        int marksAround(int corners) {
            int around = 0;
            for (int c = 0; c < cornerCount; c++) {
                if ((corners >> c & 1) == 1) around |= nextTo(c);
            }
            int seen = 0;
            for (int c = 0; c < cornerCount; c++) {
                if ((around >> c & 1) == 1) seen |= 1 << marks[c];
            }
            return Integer.bitCount(seen);
        }
    }

    /** The text, and how it is read token by token. */
    private static final class TextReader {
        private static final int END = 0, LETTERS = 1, NUMBER = 2, STOP = 3, WRONG = 4;
        private static final int FIRST_FAULT = -10, NO_FAULT = -1, MOST_NUMBER = 99;

        final int[] text;
        int length, place;
        // The latest token: what it is, where it begins, its number or its one letter.
        int token, tokenAt, value;
        int fault;

        TextReader() {
            text = new int[MOST_BYTES];
        }

        boolean put(int c) {
            if (length >= MOST_BYTES) return false;
            text[length] = c;
            length++;
            return true;
        }

        /** Reads all of it: how many items there are, or -10 less the fault's place. */
        int readInto(TownMap town) {
            town.empty();
            place = 0;
            fault = NO_FAULT;
            int items = 0;
            for (int i = 0; i <= MOST_BYTES; i++) {
                nextToken();
                if (token == END) break;
                readItem(town);
                if (fault != NO_FAULT) return FIRST_FAULT - fault;
                items++;
            }
            town.dropWhatIsNotThere();
            return items;
        }

        void readItem(TownMap town) {
            switch (token == LETTERS ? value : 0) {
                case 'c': readCorner(town); break;
                case 's': readStreet(town); break;
                case 'g': readGuide(town); break;
                case 'f': readFog(town); break;
                case 'h': readHand(town); break;
                default: refuseToken();
            }
        }

        void readCorner(TownMap town) {
            int c = town.cornerCount;
            if (c >= MOST_CORNERS) {
                refuseToken();
                return;
            }
            town.marks[c] = readNumber(0, LAST_MARK);
            readStop();
            town.cornerCount = c + 1;
        }

        void readStreet(TownMap town) {
            int s = town.streetCount;
            if (s >= MOST_STREETS) {
                refuseToken();
                return;
            }
            town.ends[s] = readNumber(0, town.cornerCount - 1);
            town.farEnds[s] = readNumber(0, town.cornerCount - 1);
            if (town.farEnds[s] == town.ends[s]) refuseToken();
            town.lengths[s] = readNumber(1, LONGEST_LENGTH);
            readStop();
            town.streetCount = s + 1;
        }

        void readGuide(TownMap town) {
            int g = town.guideCount;
            if (g >= MOST_GUIDES) {
                refuseToken();
                return;
            }
            town.paces[g] = readNumber(0, 5);
            town.fees[g] = readNumber(0, 9);
            town.knows[g] = readNumber(0, 31);
            town.knows[g] |= readNumber(0, 15) << 5;
            town.his[g] = readNumber(0, 31);
            town.his[g] |= readNumber(0, 3) << 5;
            readStop();
            town.guideCount = g + 1;
        }

        void readFog(TownMap town) {
            if (town.bellCount > 0) {
                refuseToken();
                return;
            }
            town.bells[0] = readNumber(0, 1);
            int told = 1;
            while (fault == NO_FAULT && told <= MOST_BELLS) {
                nextToken();
                if (token == STOP) break;
                if (token != NUMBER || value > 1 || told == MOST_BELLS) {
                    refuseToken();
                    break;
                }
                town.bells[told] = value;
                told++;
            }
            town.bellCount = told;
        }

        void readHand(TownMap town) {
            if (town.handTold) {
                refuseToken();
                return;
            }
            town.hand = readNumber(0, 9);
            readStop();
            town.handTold = true;
        }

        /** The number that comes next; behind a fault nothing more is read. */
        int readNumber(int least, int most) {
            if (fault != NO_FAULT) return 0;
            nextToken();
            if (token == NUMBER && value >= least && value <= most) return value;
            refuseToken();
            return 0;
        }

        void readStop() {
            if (fault != NO_FAULT) return;
            nextToken();
            if (token != STOP) refuseToken();
        }

        /** Only the first fault counts. */
        void refuseToken() {
            if (fault == NO_FAULT) fault = tokenAt;
        }

        void nextToken() {
            while (place < length && text[place] == ' ') place++;
            tokenAt = place;
            if (place >= length) token = END;
            else if (text[place] >= 'a' && text[place] <= 'z') takeLetters();
            else if (text[place] >= '0' && text[place] <= '9') takeDigits();
            else takeOne();
        }

        void takeLetters() {
            value = text[place];
            while (place < length && text[place] >= 'a' && text[place] <= 'z') place++;
            if (place - tokenAt > 1) value = 0;
            token = LETTERS;
        }

        void takeDigits() {
            boolean zeroAhead = text[place] == '0';
            value = 0;
            while (place < length && text[place] >= '0' && text[place] <= '9') {
                // It stays above what is allowed, and never grows out of an int.
                if (value <= MOST_NUMBER) value = value * 10 + text[place] - '0';
                place++;
            }
            boolean wrong = value > MOST_NUMBER || zeroAhead && place - tokenAt > 1;
            token = wrong ? WRONG : NUMBER;
        }

        void takeOne() {
            token = text[place] == ';' ? STOP : WRONG;
            place++;
        }
    }

    /** Where one is, and what may be undone. */
    private static final class Tale {
        int corner, minute, paid, leader, undoable;
        final int[] corners, minutes, paids, leaders;

        Tale() {
            corners = new int[MOST_UNDONE];
            minutes = new int[MOST_UNDONE];
            paids = new int[MOST_UNDONE];
            leaders = new int[MOST_UNDONE];
            leader = NONE;
        }

        void startAnew() {
            corner = 0;
            minute = 0;
            paid = 0;
            leader = NONE;
            undoable = 0;
        }

        void step(int toCorner, int moreMinutes, int morePaid, int newLeader) {
            remember();
            corner = toCorner;
            minute += moreMinutes;
            paid += morePaid;
            leader = newLeader;
        }

        void remember() {
            if (undoable >= MOST_UNDONE) loseOldest();
            corners[undoable] = corner;
            minutes[undoable] = minute;
            paids[undoable] = paid;
            leaders[undoable] = leader;
            undoable++;
        }

        void loseOldest() {
            undoable = MOST_UNDONE - 1;
            System.arraycopy(corners, 1, corners, 0, undoable);
            System.arraycopy(minutes, 1, minutes, 0, undoable);
            System.arraycopy(paids, 1, paids, 0, undoable);
            System.arraycopy(leaders, 1, leaders, 0, undoable);
        }

        boolean takeBack() {
            if (undoable < 1) return false;
            undoable--;
            corner = corners[undoable];
            minute = minutes[undoable];
            paid = paids[undoable];
            leader = leaders[undoable];
            return true;
        }

        void become(Tale other) {
            corner = other.corner;
            minute = other.minute;
            paid = other.paid;
            leader = other.leader;
            undoable = other.undoable;
            System.arraycopy(other.corners, 0, corners, 0, MOST_UNDONE);
            System.arraycopy(other.minutes, 0, minutes, 0, MOST_UNDONE);
            System.arraycopy(other.paids, 0, paids, 0, MOST_UNDONE);
            System.arraycopy(other.leaders, 0, leaders, 0, MOST_UNDONE);
        }
    }

    /** The soonest and the cheapest ways with guides, and the way alone by bells. */
    private static final class Routes {
        // A cost is what counts first times this, and what counts next; both stay below it.
        private static final int FIRST_COUNTS = 10000;
        private static final int FAR = 1000000000;
        private static final int PLACES = MOST_CORNERS * MOST_GUIDES;

        // What it costs from a corner, led by a guide, to the goal.
        final int[] costs;
        // The corners, as bits, where one can be behind so many minutes.
        final int[] reached;
        int minutes, paid, first;

        Routes() {
            costs = new int[PLACES];
            reached = new int[LONGEST_BY_BELLS + 1];
        }

        void find(TownMap map, int from, int to, boolean soon) {
            for (int i = 0; i < PLACES; i++) costs[i] = i / MOST_GUIDES == to ? 0 : FAR;
            boolean changed = true;
            for (int round = 0; changed && round < PLACES; round++) {
                changed = false;
                for (int g = 0; g < map.guideCount; g++) {
                    if (costStreets(map, g, soon)) changed = true;
                    if (costHands(map, g, soon)) changed = true;
                }
            }
            chooseFirst(map, from, soon);
        }

        static int costOf(int minutes, int paid, boolean soon) {
            return soon ? minutes * FIRST_COUNTS + paid : paid * FIRST_COUNTS + minutes;
        }

        boolean costStreets(TownMap map, int g, boolean soon) {
            boolean changed = false;
            for (int s = 0; s < map.streetCount; s++) {
                if (!map.knowsStreet(g, s)) continue;
                int led = map.ledMinutes(g, s);
                int cost = costOf(led, map.fees[g] * led, soon);
                int here = map.ends[s] * MOST_GUIDES + g;
                int there = map.farEnds[s] * MOST_GUIDES + g;
                if (lower(here, there, cost)) changed = true;
                if (lower(there, here, cost)) changed = true;
            }
            return changed;
        }

        boolean costHands(TownMap map, int g, boolean soon) {
            boolean changed = false;
            int cost = costOf(map.hand, 0, soon);
            for (int c = 0; c < map.cornerCount; c++) {
                if (!map.isHis(g, c)) continue;
                for (int other = 0; other < map.guideCount; other++) {
                    int place = c * MOST_GUIDES;
                    if (map.isHis(other, c) && lower(place + g, place + other, cost)) changed = true;
                }
            }
            return changed;
        }

        boolean lower(int here, int there, int cost) {
            if (costs[there] >= FAR || costs[there] + cost >= costs[here]) return false;
            costs[here] = costs[there] + cost;
            return true;
        }

        void chooseFirst(TownMap map, int from, boolean soon) {
            int least = FAR;
            first = NONE;
            for (int g = 0; g < map.guideCount; g++) {
                int cost = costs[from * MOST_GUIDES + g];
                if (map.isHis(g, from) && cost < least) {
                    least = cost;
                    first = g;
                }
            }
            int counted = least / FIRST_COUNTS;
            int next = least % FIRST_COUNTS;
            minutes = first == NONE ? NONE : soon ? counted : next;
            paid = first == NONE ? NONE : soon ? next : counted;
        }

        int minutesAlone(TownMap map, int from, int minute, int to) {
            for (int t = 0; t <= LONGEST_BY_BELLS; t++) reached[t] = 0;
            reached[0] = 1 << from;
            for (int t = 0; t <= LONGEST_BY_BELLS; t++) {
                if ((reached[t] >> to & 1) == 1) return t;
                if (t < LONGEST_BY_BELLS) reached[t + 1] |= reached[t];
                walkOn(map, t, map.thinFrom(minute + t));
            }
            return NONE;
        }

        void walkOn(TownMap map, int t, int thin) {
            for (int s = 0; s < map.streetCount; s++) {
                int there = t + map.lengths[s];
                if (map.lengths[s] > thin || there > LONGEST_BY_BELLS) continue;
                if ((reached[t] >> map.ends[s] & 1) == 1) reached[there] |= 1 << map.farEnds[s];
                if ((reached[t] >> map.farEnds[s] & 1) == 1) reached[there] |= 1 << map.ends[s];
            }
        }
    }

    /** The marks that were felt, and the corners that one says one went by. */
    private static final class Touches {
        int felt, walked;
        final int[] feltMarks, walkedCorners;
        // How many rows of corners end in each corner so far, and one street further on.
        final int[] rows, nextRows;

        Touches() {
            feltMarks = new int[MOST_MARKS];
            walkedCorners = new int[MOST_MARKS];
            rows = new int[MOST_CORNERS];
            nextRows = new int[MOST_CORNERS];
        }

        void forgetAll() {
            felt = 0;
            walked = 0;
        }

        boolean addMark(int mark) {
            if (felt >= MOST_MARKS) return false;
            feltMarks[felt] = mark;
            felt++;
            return true;
        }

        boolean addCorner(int c) {
            if (walked >= MOST_MARKS) return false;
            walkedCorners[walked] = c;
            walked++;
            return true;
        }

        int lastWalked() {
            return walked > 0 ? walkedCorners[walked - 1] : NONE;
        }

        int rowCount(TownMap map) {
            countRows(map, false);
            int sum = 0;
            for (int c = 0; c < MOST_CORNERS; c++) sum += rows[c];
            return sum;
        }

        int lastCorners(TownMap map) {
            countRows(map, false);
            return rowEnds();
        }

        /** Streets go both ways, so the rows read backward end where the others begin. */
        int firstCorners(TownMap map) {
            countRows(map, true);
            return rowEnds();
        }

        int rowEnds() {
            int bits = 0;
            for (int c = 0; c < MOST_CORNERS; c++) {
                if (rows[c] > 0) bits |= 1 << c;
            }
            return bits;
        }

        void countRows(TownMap map, boolean backward) {
            for (int c = 0; c < MOST_CORNERS; c++) rows[c] = 0;
            for (int i = 0; i < felt; i++) {
                int mark = feltMarks[backward ? felt - 1 - i : i];
                for (int c = 0; c < map.cornerCount; c++) {
                    nextRows[c] = map.marks[c] != mark ? 0 : i == 0 ? 1 : rowsInto(map, c);
                }
                System.arraycopy(nextRows, 0, rows, 0, map.cornerCount);
            }
        }

        int rowsInto(TownMap map, int c) {
            int near = map.nextTo(c);
            int sum = 0;
            for (int d = 0; d < map.cornerCount; d++) {
                if ((near >> d & 1) == 1) sum += rows[d];
            }
            return sum;
        }

        /** Whether all that was felt is so if this corner alone has another mark than was told. */
        boolean isOnlyFalse(TownMap map, int c) {
            int mark = NONE;
            for (int i = 0; i < felt && i < walked; i++) {
                int told = map.marks[walkedCorners[i]];
                if (walkedCorners[i] != c) {
                    if (feltMarks[i] != told) return false;
                } else {
                    if (feltMarks[i] == told || mark != NONE && feltMarks[i] != mark) return false;
                    mark = feltMarks[i];
                }
            }
            return mark != NONE;
        }
    }

    /** The wishes, and the day of a guide that is worth most. */
    private static final class WishList {
        private static final int FAR = 10000;

        int size;
        final int[] froms, tos, worths;
        // Minutes of the shortest ways from corner to corner for the guide whose day it is.
        final int[] ways;
        int bestWorth, bestSet;

        WishList() {
            froms = new int[MOST_WISHES];
            tos = new int[MOST_WISHES];
            worths = new int[MOST_WISHES];
            ways = new int[MOST_CORNERS * MOST_CORNERS];
        }

        boolean add(int from, int to, int worth) {
            if (size >= MOST_WISHES) return false;
            froms[size] = from;
            tos[size] = to;
            worths[size] = worth;
            size++;
            return true;
        }

        void findBestDay(TownMap map, int g, int from, int n) {
            takeStreets(map, g);
            shortenWays();
            bestWorth = 0;
            bestSet = 0;
            tryOn(from, n, 0, 0, 0);
        }

        void takeStreets(TownMap map, int g) {
            for (int i = 0; i < ways.length; i++) ways[i] = i / MOST_CORNERS == i % MOST_CORNERS ? 0 : FAR;
            for (int s = 0; s < map.streetCount; s++) {
                if (!map.knowsStreet(g, s)) continue;
                int led = map.ledMinutes(g, s);
                int there = map.ends[s] * MOST_CORNERS + map.farEnds[s];
                int again = map.farEnds[s] * MOST_CORNERS + map.ends[s];
                ways[there] = Math.min(ways[there], led);
                ways[again] = Math.min(ways[again], led);
            }
        }

        void shortenWays() {
            for (int over = 0; over < MOST_CORNERS; over++) {
                for (int i = 0; i < ways.length; i++) {
                    int first = ways[i / MOST_CORNERS * MOST_CORNERS + over];
                    int second = ways[over * MOST_CORNERS + i % MOST_CORNERS];
                    ways[i] = Math.min(ways[i], first + second);
                }
            }
        }

        private void tryOn(int here, int left, int done, int worth, int depth) {
            if (worth > bestWorth || worth == bestWorth && done < bestSet) {
                bestWorth = worth;
                bestSet = done;
            }
            if (depth >= MOST_WISHES) return;
            for (int w = 0; w < size; w++) {
                if ((done >> w & 1) == 1) continue;
                int takes = ways[here * MOST_CORNERS + froms[w]] + ways[froms[w] * MOST_CORNERS + tos[w]];
                if (takes <= left) tryOn(tos[w], left - takes, done | 1 << w, worth + worths[w], depth + 1);
            }
        }
    }
}
