import java.util.ArrayList;
import java.util.HashSet;
import java.util.List;
import java.util.PriorityQueue;
import java.util.Random;
import java.util.Set;
import java.util.TreeMap;
import java.util.regex.Matcher;
import java.util.regex.Pattern;

/**
 * Runs of calls chosen by fixed seeds, each answered by the class and by a plain model of the document
 * that tries all there is to try; their answers must be alike, and nothing may be thrown.
 */
public final class ModelTest {
    private static final int BAD = -1, STATE = -2, FULL = -3, NONE = -9, NO = -1000000;
    private static final int RUNS = 4000, CALLS = 512;
    private static int wrong = 0;

    private record Street(int a, int b, int length) {
        int other(int c) {
            return c == a ? b : c == b ? a : -1;
        }
    }

    private record Guide(int pace, int fee, int streets, int corners) { }

    private record Now(int corner, int minute, int paid, int leader) { }

    private record Wish(int from, int to, int worth) { }

    private record Image(Now now, List<Now> past) { }

    private record Cost(int first, int next) implements Comparable<Cost> {
        public int compareTo(Cost o) {
            return first != o.first ? Integer.compare(first, o.first) : Integer.compare(next, o.next);
        }
    }

    private static final class FaultAt extends RuntimeException {
        private static final long serialVersionUID = 1;
        final int place;

        FaultAt(int place) {
            this.place = place;
        }
    }

    private static final class Town {
        final List<Integer> marks = new ArrayList<>();
        final List<Street> streets = new ArrayList<>();
        final List<Guide> guides = new ArrayList<>();
        final List<Integer> fog = new ArrayList<>();
        int hand = -1;
        int items = 0;
    }

    private static final class Parser {
        private static final Pattern TOKEN = Pattern.compile(" +|[a-z]+|[0-9]+|;|.", Pattern.DOTALL);
        final List<String> tokens = new ArrayList<>();
        final List<Integer> places = new ArrayList<>();
        final int length;
        int at = 0;

        Parser(String text) {
            length = text.length();
            Matcher m = TOKEN.matcher(text);
            while (m.find()) {
                if (m.group().charAt(0) == ' ') continue;
                tokens.add(m.group());
                places.add(m.start());
            }
        }

        int here() {
            return at < places.size() ? places.get(at) : length;
        }

        boolean nextIs(String token) {
            return at < tokens.size() && tokens.get(at).equals(token);
        }

        void need(boolean ok) {
            if (!ok) throw new FaultAt(here());
        }

        int number(int low, int high, int not) {
            need(at < tokens.size() && tokens.get(at).matches("0|[1-9][0-9]?"));
            int n = Integer.parseInt(tokens.get(at));
            need(n >= low && n <= high && n != not);
            at++;
            return n;
        }

        void stop() {
            need(nextIs(";"));
            at++;
        }

        Town parse() {
            Town t = new Town();
            while (at < tokens.size()) {
                String word = tokens.get(at);
                need(word.equals("c") && t.marks.size() < 7 || word.equals("s") && t.streets.size() < 9
                    || word.equals("g") && t.guides.size() < 4 || word.equals("f") && t.fog.isEmpty()
                    || word.equals("h") && t.hand < 0);
                at++;
                item(t, word);
                stop();
                t.items++;
            }
            return t;
        }

        void item(Town t, String word) {
            if (word.equals("c")) t.marks.add(number(0, 3, -1));
            if (word.equals("h")) t.hand = number(0, 9, -1);
            if (word.equals("s")) {
                int a = number(0, t.marks.size() - 1, -1);
                int b = number(0, t.marks.size() - 1, a);
                t.streets.add(new Street(a, b, number(1, 9, -1)));
            }
            if (word.equals("g")) {
                int pace = number(0, 5, -1);
                int fee = number(0, 9, -1);
                int k = number(0, 31, -1);
                k += 32 * number(0, 15, -1);
                int c = number(0, 31, -1);
                c += 32 * number(0, 3, -1);
                t.guides.add(new Guide(pace, fee, k, c));
            }
            if (word.equals("f")) {
                t.fog.add(number(0, 1, -1));
                while (!nextIs(";") && t.fog.size() < 8) t.fog.add(number(0, 1, -1));
            }
        }
    }

    /** The document in its plainest form. */
    private static final class Model {
        String text = "";
        Town t = new Town();
        Now now = new Now(0, 0, 0, NONE);
        List<Now> past = new ArrayList<>();
        Image[] images = new Image[2];
        List<Integer> felt = new ArrayList<>();
        List<Integer> went = new ArrayList<>();
        List<Wish> wishes = new ArrayList<>();
        long trace = 0;

        boolean corner(int c) {
            return c >= 0 && c < t.marks.size();
        }

        boolean street(int s) {
            return s >= 0 && s < t.streets.size();
        }

        boolean guide(int g) {
            return g >= 0 && g < t.guides.size();
        }

        boolean his(int g, int c) {
            return corner(c) && (t.guides.get(g).corners & 1 << c) != 0;
        }

        boolean knows(int g, int s) {
            return street(s) && (t.guides.get(g).streets & 1 << s) != 0;
        }

        int hand() {
            return t.hand < 0 ? 1 : t.hand;
        }

        boolean thick(int minute) {
            return t.fog.isEmpty() || t.fog.get(minute / 10 % t.fog.size()) == 1;
        }

        boolean near(int c, int d) {
            return t.streets.stream().anyMatch(s -> s.other(c) == d);
        }

        int town() {
            try {
                t = new Parser(text).parse();
            } catch (FaultAt f) {
                return -10 - f.place;
            }
            text = "";
            now = new Now(0, 0, 0, NONE);
            past.clear();
            images = new Image[2];
            felt.clear();
            went.clear();
            wishes.clear();
            return t.items;
        }

        void become(Now next) {
            past.add(now);
            if (past.size() > 10) past.remove(0);
            now = next;
        }

        Now afterHire(int g) {
            if (t.marks.isEmpty() || !his(g, now.corner) || now.leader == g) return null;
            if (now.leader == NONE) return new Now(now.corner, now.minute, now.paid, g);
            if (!his(now.leader, now.corner) || now.minute + hand() > 9999) return null;
            return new Now(now.corner, now.minute + hand(), now.paid, g);
        }

        Now afterLed(int s) {
            int g = now.leader;
            int there = t.streets.get(s).other(now.corner);
            if (g == NONE || !knows(g, s) || there < 0) return null;
            int led = t.streets.get(s).length + t.guides.get(g).pace;
            Now next = new Now(there, now.minute + led, now.paid + led * t.guides.get(g).fee, g);
            return next.minute > 9999 || next.paid > 99999 ? null : next;
        }

        Now afterAlone(int s) {
            int there = t.streets.get(s).other(now.corner);
            if (now.leader != NONE || there < 0) return null;
            int until = now.minute + t.streets.get(s).length;
            if (until > 9999) return null;
            for (int m = now.minute; m < until; m++) if (thick(m)) return null;
            return new Now(there, until, now.paid, NONE);
        }

        int done(Now next, int answer) {
            if (next == null) return STATE;
            become(next);
            return answer;
        }

        int now(int what) {
            int bits = 0;
            switch (what) {
                case 0: return t.marks.isEmpty() ? NONE : now.corner;
                case 1: return now.minute;
                case 2: return now.paid;
                case 3: return now.leader;
                case 4:
                    for (int s = 0; s < t.streets.size(); s++) {
                        if ((now.leader == NONE ? afterAlone(s) : afterLed(s)) != null) bits += 1 << s;
                    }
                    return bits;
                case 5:
                    for (int g = 0; g < t.guides.size(); g++) if (afterHire(g) != null) bits += 1 << g;
                    return bits;
                default: return BAD;
            }
        }

        /** The least cost with this first guide, settled place by place. */
        Cost routeWith(int first, int from, int to, boolean soon) {
            TreeMap<Integer, Cost> settled = new TreeMap<>();
            PriorityQueue<Object[]> open = new PriorityQueue<>((p, q) -> ((Cost) p[0]).compareTo((Cost) q[0]));
            open.add(new Object[] {new Cost(0, 0), from * 4 + first});
            while (!open.isEmpty()) {
                Object[] o = open.poll();
                Cost cost = (Cost) o[0];
                int place = (Integer) o[1];
                if (settled.containsKey(place)) continue;
                settled.put(place, cost);
                int c = place / 4;
                int g = place % 4;
                if (c == to) return cost;
                for (int s = 0; s < t.streets.size(); s++) {
                    int d = t.streets.get(s).other(c);
                    if (d < 0 || !knows(g, s)) continue;
                    int led = t.streets.get(s).length + t.guides.get(g).pace;
                    open.add(new Object[] {more(cost, led, led * t.guides.get(g).fee, soon), d * 4 + g});
                }
                for (int h = 0; h < t.guides.size(); h++) {
                    if (h != g && his(g, c) && his(h, c)) open.add(new Object[] {more(cost, hand(), 0, soon), c * 4 + h});
                }
            }
            return null;
        }

        Cost more(Cost cost, int minutes, int paid, boolean soon) {
            return new Cost(cost.first + (soon ? minutes : paid), cost.next + (soon ? paid : minutes));
        }

        int route(int from, int to, int what, boolean soon) {
            if (!corner(from) || !corner(to) || what < 0 || what > 2) return BAD;
            if (from == to) return what == 2 ? NONE : 0;
            Cost best = null;
            int first = NONE;
            for (int g = 0; g < t.guides.size(); g++) {
                if (!his(g, from)) continue;
                Cost cost = routeWith(g, from, to, soon);
                if (cost != null && (best == null || cost.compareTo(best) < 0)) {
                    best = cost;
                    first = g;
                }
            }
            if (what == 2 || best == null) return first;
            return (what == 0) == soon ? best.first : best.next;
        }

        /** All sums of minutes of ways without a corner twice. */
        void sums(int g, int c, int to, int met, int sum, Set<Integer> found) {
            if (c == to) found.add(sum);
            for (int s = 0; s < t.streets.size(); s++) {
                int d = t.streets.get(s).other(c);
                if (d < 0 || !knows(g, s) || (met & 1 << d) != 0) continue;
                sums(g, d, to, met | 1 << d, sum + t.streets.get(s).length + t.guides.get(g).pace, found);
            }
        }

        int byFee(int from, int to, int fee) {
            int bits = 0;
            for (int g = 0; g < t.guides.size(); g++) {
                if (!his(g, from)) continue;
                Set<Integer> found = new HashSet<>();
                sums(g, from, to, 1 << from, 0, found);
                boolean can = fee < 0 ? !found.isEmpty() : false;
                for (int sum : found) can |= sum * t.guides.get(g).fee == fee;
                if (can) bits |= 1 << g;
            }
            return bits;
        }

        int byBells(int from, int minute, int to) {
            if (!corner(from) || !corner(to) || minute < 0 || minute > 9999) return BAD;
            int[] soonest = new int[7];
            java.util.Arrays.fill(soonest, 1000000);
            soonest[from] = 0;
            for (int round = 0; round < 8; round++) {
                for (Street s : t.streets) {
                    for (int c : new int[] {s.a, s.b}) {
                        int leave = soonest[c];
                        while (leave <= 500 && !thinFor(minute + leave, s.length)) leave++;
                        if (leave <= 500) soonest[s.other(c)] = Math.min(soonest[s.other(c)], leave + s.length);
                    }
                }
            }
            return soonest[to] <= 500 ? soonest[to] : NONE;
        }

        boolean thinFor(int minute, int length) {
            for (int m = 0; m < length; m++) if (thick(minute + m)) return false;
            return true;
        }

        int taught(int g, int what) {
            if (!guide(g) || what < 0 || what > 1) return BAD;
            int best = NONE;
            int most = NONE;
            for (int s = t.streets.size() - 1; s >= 0; s--) {
                if (knows(g, s)) continue;
                Set<Integer> seen = new HashSet<>();
                for (int c = 0; c < t.marks.size(); c++) if (his(g, c)) spread(g, c, s, seen);
                if (seen.size() >= most) {
                    most = seen.size();
                    best = s;
                }
            }
            return what == 0 ? best : most;
        }

        void spread(int g, int c, int extra, Set<Integer> seen) {
            if (!seen.add(c)) return;
            for (int s = 0; s < t.streets.size(); s++) {
                int d = t.streets.get(s).other(c);
                if (d >= 0 && (s == extra || knows(g, s))) spread(g, d, extra, seen);
            }
        }

        int went(int c) {
            if (!corner(c)) return BAD;
            if (!went.isEmpty() && !near(went.get(went.size() - 1), c)) return STATE;
            if (went.size() == 6) return FULL;
            went.add(c);
            return went.size();
        }

        /** All rows of corners, tried one by one. */
        void rows(List<Integer> row, List<List<Integer>> found) {
            if (row.size() == felt.size()) {
                if (!row.isEmpty()) found.add(new ArrayList<>(row));
                return;
            }
            for (int c = 0; c < t.marks.size(); c++) {
                if (!t.marks.get(c).equals(felt.get(row.size()))) continue;
                if (!row.isEmpty() && !near(row.get(row.size() - 1), c)) continue;
                row.add(c);
                rows(row, found);
                row.remove(row.size() - 1);
            }
        }

        int fits(int what) {
            if (what < 0 || what > 3) return BAD;
            List<List<Integer>> found = new ArrayList<>();
            rows(new ArrayList<>(), found);
            if (what == 0) return found.size();
            int bits = 0;
            Set<Integer> tells = new HashSet<>();
            for (List<Integer> row : found) {
                int last = row.get(row.size() - 1);
                bits |= 1 << (what == 1 ? last : row.get(0));
                for (Street s : t.streets) if (s.other(last) >= 0) tells.add(t.marks.get(s.other(last)));
            }
            return what == 3 ? tells.size() : bits;
        }

        int falseMark() {
            int bits = 0;
            if (felt.size() != went.size()) return 0;
            for (int c : went) {
                for (int mark = 0; mark < 4; mark++) {
                    if (mark == t.marks.get(c)) continue;
                    boolean so = true;
                    for (int i = 0; i < felt.size(); i++) {
                        so &= felt.get(i) == (went.get(i) == c ? mark : t.marks.get(went.get(i)));
                    }
                    if (so) bits |= 1 << c;
                }
            }
            return bits;
        }

        int minutesBetween(int g, int from, int to) {
            Set<Integer> found = new HashSet<>();
            sums(g, from, to, 1 << from, 0, found);
            int least = 1000000;
            for (int sum : found) least = Math.min(least, sum);
            return least;
        }

        void tryRow(int g, int c, int left, int done, int[] worthOf) {
            int worth = 0;
            for (int w = 0; w < wishes.size(); w++) if ((done & 1 << w) != 0) worth += wishes.get(w).worth;
            worthOf[done] = worth;
            for (int w = 0; w < wishes.size(); w++) {
                Wish wish = wishes.get(w);
                if ((done & 1 << w) != 0) continue;
                int rest = left - minutesBetween(g, c, wish.from) - minutesBetween(g, wish.from, wish.to);
                if (rest >= 0) tryRow(g, wish.to, rest, done | 1 << w, worthOf);
            }
        }

        int day(int g, int from, int n, int what) {
            if (!guide(g) || !corner(from) || !his(g, from) || n < 0 || n > 99 || what < 0 || what > 1) return BAD;
            int[] worthOf = new int[16];
            java.util.Arrays.fill(worthOf, -1);
            tryRow(g, from, n, 0, worthOf);
            int best = 0;
            for (int set = 1; set < 16; set++) if (worthOf[set] > worthOf[best]) best = set;
            return what == 0 ? worthOf[best] : best;
        }

        int rate(int kind, int g) {
            if (kind < 0 || kind > 5 || !guide(g)) return NO;
            int[] traces = {1, 11, 101, 1011, 10101, 100001};
            trace += traces[kind];
            int fee = t.guides.get(g).fee;
            int known = 0;
            int own = 0;
            for (int s = 0; s < t.streets.size(); s++) if (knows(g, s)) known++;
            for (int c = 0; c < t.marks.size(); c++) if (his(g, c)) own++;
            int[] rates = {fee, fee + t.guides.get(g).pace, fee - known, 2 * (fee + t.guides.get(g).pace),
                fee - known + own, fee + now.minute};
            return rates[kind];
        }

        int count(int what) {
            int[] counts = {t.marks.size(), t.streets.size(), t.guides.size(), hand(), t.fog.size(),
                felt.size(), went.size(), wishes.size(), past.size(), text.length()};
            return what < 0 || what > 9 ? BAD : counts[what];
        }

        long answer(String call, int a, int b, int c, int d) {
            switch (call) {
                case "type":
                    if (a < 0 || a > 255) return BAD;
                    if (text.length() == 200) return FULL;
                    text += (char) a;
                    return text.length();
                case "clear":
                    int had = text.length();
                    text = "";
                    return had;
                case "town": return town();
                case "corner": return corner(a) ? t.marks.get(a) : BAD;
                case "street":
                    if (!street(a) || b < 0 || b > 2) return BAD;
                    return new int[] {t.streets.get(a).a, t.streets.get(a).b, t.streets.get(a).length}[b];
                case "guide":
                    if (!guide(a) || b < 0 || b > 3) return BAD;
                    Guide g = t.guides.get(a);
                    return new int[] {g.pace, g.fee, g.streets % (1 << t.streets.size()),
                        g.corners % (1 << t.marks.size())}[b];
                case "fog": return a < 0 || a > 9999 ? BAD : thick(a) ? 1 : 0;
                default: return answerDone(call, a, b, c, d);
            }
        }

        long answerDone(String call, int a, int b, int c, int d) {
            Now next;
            switch (call) {
                case "hires":
                    if (!guide(a)) return BAD;
                    next = afterHire(a);
                    return done(next, next == null ? 0 : next.minute);
                case "leaves":
                    int led = now.leader;
                    return done(led == NONE ? null : new Now(now.corner, now.minute, now.paid, NONE), led);
                case "leads":
                    if (!street(a)) return BAD;
                    next = afterLed(a);
                    return done(next, next == null ? 0 : next.corner);
                case "alone":
                    if (!street(a)) return BAD;
                    next = afterAlone(a);
                    return done(next, next == null ? 0 : next.corner);
                case "waits":
                    if (a < 1 || a > 99) return BAD;
                    next = new Now(now.corner, now.minute + a, now.paid, now.leader);
                    return done(next.minute > 9999 ? null : next, next.minute);
                case "undo":
                    if (past.isEmpty()) return STATE;
                    now = past.remove(past.size() - 1);
                    return past.size();
                case "now": return now(a);
                default: return answerWays(call, a, b, c, d);
            }
        }

        long answerWays(String call, int a, int b, int c, int d) {
            switch (call) {
                case "soonest": return route(a, b, c, true);
                case "cheapest": return route(a, b, c, false);
                case "byOne": return corner(a) && corner(b) ? byFee(a, b, -1) : BAD;
                case "forFee": return corner(a) && corner(b) && c >= 0 && c <= 999 ? byFee(a, b, c) : BAD;
                case "byBells": return byBells(a, b, c);
                case "taught": return taught(a, b);
                default: return answerRest(call, a, b, c, d);
            }
        }

        long answerRest(String call, int a, int b, int c, int d) {
            switch (call) {
                case "feels":
                    if (a < 0 || a > 3) return BAD;
                    if (felt.size() == 6) return FULL;
                    felt.add(a);
                    return felt.size();
                case "went": return went(a);
                case "forget":
                    int both = felt.size() + went.size();
                    felt.clear();
                    went.clear();
                    return both;
                case "fits": return fits(a);
                case "falseMark": return falseMark();
                case "wishes":
                    if (!corner(a) || !corner(b) || a == b || c < 0 || c > 99) return BAD;
                    if (wishes.size() == 4) return FULL;
                    wishes.add(new Wish(a, b, c));
                    return wishes.size();
                case "grants":
                    int were = wishes.size();
                    wishes.clear();
                    return were;
                case "day": return day(a, b, c, d);
                case "rate": return rate(a, b);
                case "keep":
                    if (a < 0 || a > 1) return BAD;
                    images[a] = new Image(now, List.copyOf(past));
                    return now.minute;
                case "back":
                    if (a < 0 || a > 1) return BAD;
                    if (images[a] == null) return STATE;
                    now = images[a].now;
                    past = new ArrayList<>(images[a].past);
                    return now.minute;
                case "count": return count(a);
                case "trace": return trace;
                default: throw new IllegalStateException(call);
            }
        }
    }

    private static long ask(FogGuides x, String call, int a, int b, int c, int d) {
        switch (call) {
            case "type": return x.type(a);
            case "clear": return x.clear();
            case "town": return x.town();
            case "corner": return x.corner(a);
            case "street": return x.street(a, b);
            case "guide": return x.guide(a, b);
            case "fog": return x.fog(a);
            case "hires": return x.hires(a);
            case "leaves": return x.leaves();
            case "leads": return x.leads(a);
            case "alone": return x.alone(a);
            case "waits": return x.waits(a);
            case "undo": return x.undo();
            case "now": return x.now(a);
            case "soonest": return x.soonest(a, b, c);
            case "cheapest": return x.cheapest(a, b, c);
            case "byOne": return x.byOne(a, b);
            case "forFee": return x.forFee(a, b, c);
            case "byBells": return x.byBells(a, b, c);
            case "taught": return x.taught(a, b);
            case "feels": return x.feels(a);
            case "went": return x.went(a);
            case "forget": return x.forget();
            case "fits": return x.fits(a);
            case "falseMark": return x.falseMark();
            case "wishes": return x.wishes(a, b, c);
            case "grants": return x.grants();
            case "day": return x.day(a, b, c, d);
            case "rate": return x.rate(a, b);
            case "keep": return x.keep(a);
            case "back": return x.back(a);
            case "count": return x.count(a);
            case "trace": return x.trace();
            default: throw new IllegalStateException(call);
        }
    }

    /** Chooses calls; most arguments are such as can be answered. */
    private static final class Chooser {
        // Calls by name, each argument a letter: c corner, s street, g guide, m minute, or a digit: 0 up to it.
        private static final String[] CALLS = {
            "clear", "town", "corner c", "street s2", "guide g3", "fog m", "hires g", "hires g", "hires g", "hires g",
            "leaves", "leads s", "leads s", "leads s", "leads s", "leads s", "alone s", "alone s", "alone s",
            "waits w", "undo", "undo", "now 5", "now 5", "now 4", "soonest cc2", "soonest cc2", "cheapest cc2",
            "cheapest cc2", "byOne cc", "forFee ccf", "forFee ccf", "byBells cmc", "byBells cmc", "taught g1",
            "taught g1", "feels 3", "feels 3", "feels 3", "went c", "went c", "went c", "forget", "fits 3", "fits 3",
            "falseMark", "falseMark", "wishes ccw", "wishes ccw", "grants", "day gcw1", "day gcw1", "day gcw1",
            "rate 5g", "keep 1", "back 1", "count 9", "trace"};
        private static final int[] WILD = {-1, 7, 9, 100, 256, 1000, 10000, -1000000, Integer.MAX_VALUE, Integer.MIN_VALUE};
        final Random random;

        Chooser(long seed) {
            random = new Random(seed);
        }

        int argument(char letter, Model m) {
            if (random.nextInt(60) == 0) return WILD[random.nextInt(WILD.length)];
            switch (letter) {
                case 'c': return random.nextInt(Math.max(1, m.t.marks.size()));
                case 's': return random.nextInt(Math.max(1, m.t.streets.size()));
                case 'g': return random.nextInt(Math.max(1, m.t.guides.size()));
                case 'm': return random.nextInt(3) == 0 ? 9999 - random.nextInt(60) : random.nextInt(200);
                case 'w': return random.nextInt(100);
                case 'f': return random.nextInt(2) == 0 ? random.nextInt(40) : random.nextInt(400);
                default: return random.nextInt(letter - '0' + 1);
            }
        }

        String townText() {
            StringBuilder b = new StringBuilder();
            int corners = 1 + random.nextInt(7);
            for (int i = 0; i < corners; i++) b.append('c').append(random.nextInt(4) * random.nextInt(2)).append(';');
            int streets = corners > 1 ? random.nextInt(10) : 0;
            for (int i = 0; i < streets; i++) {
                int a = random.nextInt(corners);
                int to = (a + 1 + random.nextInt(corners - 1)) % corners;
                b.append('s').append(a).append(' ').append(to).append(' ').append(1 + random.nextInt(9)).append(';');
            }
            int guides = random.nextInt(5);
            for (int i = 0; i < guides; i++) {
                b.append('g').append(random.nextInt(6)).append(' ').append(random.nextInt(10));
                b.append(' ').append(random.nextInt(32) | random.nextInt(32)).append(' ').append(random.nextInt(16));
                b.append(' ').append(random.nextInt(32)).append(' ').append(random.nextInt(4)).append(';');
            }
            if (random.nextInt(5) > 0) {
                b.append('f');
                int bits = 1 + random.nextInt(8);
                for (int i = 0; i < bits; i++) b.append(' ').append(random.nextInt(5) < 3 ? 0 : 1);
                b.append(';');
            }
            if (random.nextInt(3) > 0) b.append('h').append(random.nextInt(10) * random.nextInt(2)).append(';');
            return b.toString();
        }

        /** Other bytes, more bytes, fewer bytes, or items in another order. */
        String spoiled(String text) {
            StringBuilder b = new StringBuilder(text);
            String bytes = " ;0123456789cgsfhaz\t\u00ffA01 ;";
            int times = 1 + random.nextInt(3);
            for (int i = 0; i < times && b.length() > 0; i++) {
                int at = random.nextInt(b.length());
                char c = bytes.charAt(random.nextInt(bytes.length()));
                switch (random.nextInt(5)) {
                    case 0: b.setCharAt(at, c); break;
                    case 1: b.insert(at, c); break;
                    case 2: b.deleteCharAt(at); break;
                    case 3: b.setLength(at); break;
                    default: b.append(b.substring(at)); break;
                }
            }
            return b.toString();
        }

        String shuffled(String text) {
            List<String> items = new ArrayList<>(List.of(text.split("(?<=;)")));
            java.util.Collections.shuffle(items, random);
            return String.join("", items);
        }
    }

    private static final class Run {
        final long seed;
        final FogGuides x = new FogGuides();
        final Model m = new Model();
        final Chooser chooser;
        int calls = 0;
        boolean failed = false;

        Run(long seed) {
            this.seed = seed;
            chooser = new Chooser(seed);
        }

        void call(String name, int a, int b, int c, int d) {
            if (failed || calls++ >= CALLS) return;
            long want = m.answer(name, a, b, c, d);
            long got;
            try {
                got = ask(x, name, a, b, c, d);
            } catch (RuntimeException e) {
                got = Long.MIN_VALUE;
                System.out.println("seed " + seed + ": thrown " + e);
            }
            if (got == want) return;
            failed = true;
            wrong++;
            System.out.println("seed " + seed + ", call " + calls + ": " + name + "(" + a + ", " + b + ", " + c + ", " + d
                + ") answered " + got + ", due is " + want);
        }

        void tell(String text) {
            for (int i = 0; i < text.length(); i++) call("type", text.charAt(i), 0, 0, 0);
            call("town", 0, 0, 0, 0);
        }

        void go() {
            String text = chooser.townText();
            int way = chooser.random.nextInt(8);
            tell(way == 0 ? chooser.spoiled(text) : way == 1 ? chooser.shuffled(text) : text);
            if (way <= 1 && chooser.random.nextBoolean()) {
                call("clear", 0, 0, 0, 0);
                tell(chooser.spoiled(chooser.townText()));
            }
            if (chooser.random.nextInt(12) == 0) for (int i = 0; i < 101; i++) call("waits", 98 + i % 2, 0, 0, 0);
            while (!failed && calls < CALLS) {
                String[] chosen = Chooser.CALLS[chooser.random.nextInt(Chooser.CALLS.length)].split(" ");
                boolean rare = chosen[0].equals("town") || chosen[0].equals("grants") || chosen[0].equals("forget");
                if (rare && chooser.random.nextInt(4) > 0) continue;
                if (chosen[0].equals("town") && chooser.random.nextInt(8) > 0) continue;
                int[] args = new int[4];
                for (int i = 0; chosen.length > 1 && i < chosen[1].length(); i++) {
                    args[i] = chooser.argument(chosen[1].charAt(i), m);
                }
                call(chosen[0], args[0], args[1], args[2], args[3]);
            }
        }
    }

    public static void main(String[] args) {
        int runs = args.length > 0 ? Integer.parseInt(args[0]) : RUNS;
        for (int seed = 1; seed <= runs && wrong < 20; seed++) new Run(seed).go();
        System.out.println(wrong == 0 ? "the class and the model are alike" : wrong + " runs are not alike");
        if (wrong != 0) System.exit(1);
    }
}
