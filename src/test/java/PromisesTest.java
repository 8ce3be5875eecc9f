/** Each promise of the document by hand: ordinary inputs, the edges it names, wrong inputs. */
public final class PromisesTest {
    private static final int BAD = -1, STATE = -2, FULL = -3, NONE = -9, NO = -1000000;
    private static int wrong = 0;

    // Two parallel streets, a dead end, a corner that no street leads to.
    private static final String TOWN =
        "c0;c1;c0;c2;c3;"
        + "s0 1 3;s1 2 2;s2 3 4;s3 0 9;s0 1 1;"
        + "g0 2 3 0 3 0;g1 1 14 0 14 0;g0 9 15 0 9 0;"
        + "f0 1 0;h2;";

    private static void due(String what, long got, long want) {
        if (got == want) return;
        wrong++;
        System.out.println(what + " answered " + got + ", due is " + want);
    }

    private static void typeAll(FogGuides x, String text) {
        for (int i = 0; i < text.length(); i++) x.type(text.charAt(i));
    }

    private static FogGuides read(String text) {
        FogGuides x = new FogGuides();
        typeAll(x, text);
        int items = 0;
        for (int i = 0; i < text.length(); i++) if (text.charAt(i) == ';') items++;
        due("town() of " + text, x.town(), items);
        return x;
    }

    private static void dueFault(String text, int place) {
        FogGuides x = new FogGuides();
        typeAll(x, text);
        due("town() of '" + text + "'", x.town(), -10 - place);
        due("bytes left of '" + text + "'", x.count(9), text.length());
    }

    public static void main(String[] args) {
        promise1NewObject();
        promise2Type();
        promise3Clear();
        promise4TownReads();
        promise4TownFaults();
        promise4TownStartsAnew();
        promise5Corner();
        promise6Street();
        promise7Guide();
        promise8Fog();
        promise9Hires();
        promise10Leaves();
        promise11Leads();
        promise12Alone();
        promise13Waits();
        promise14Undo();
        promise15Now();
        promise16Soonest();
        promise17Cheapest();
        promise18ByOne();
        promise19ForFee();
        promise20ByBells();
        promise21Taught();
        promise22Feels();
        promise23Went();
        promise24Forget();
        promise25Fits();
        promise26FalseMark();
        promise27Wishes();
        promise28Grants();
        promise29Day();
        promise30Rate();
        promise31Keep();
        promise32Back();
        promise33Count();
        promise34Trace();
        System.out.println(wrong == 0 ? "all promises hold" : wrong + " answers are not as due");
        if (wrong != 0) System.exit(1);
    }

    private static void promise1NewObject() {
        FogGuides x = new FogGuides();
        int[] counts = {0, 0, 0, 1, 0, 0, 0, 0, 0, 0};
        for (int i = 0; i < counts.length; i++) due("new: count(" + i + ")", x.count(i), counts[i]);
        int[] now = {NONE, 0, 0, NONE, 0, 0};
        for (int i = 0; i < now.length; i++) due("new: now(" + i + ")", x.now(i), now[i]);
        due("new: fog(9999)", x.fog(9999), 1);
        due("new: corner(0)", x.corner(0), BAD);
        due("new: street(0, 0)", x.street(0, 0), BAD);
        due("new: guide(0, 0)", x.guide(0, 0), BAD);
        due("new: trace()", x.trace(), 0);
        due("new: back(0)", x.back(0), STATE);
        due("BAD", FogGuides.BAD, BAD);
        due("STATE", FogGuides.STATE, STATE);
        due("FULL", FogGuides.FULL, FULL);
        due("NONE", FogGuides.NONE, NONE);
        due("NO", FogGuides.NO, NO);
    }

    private static void promise2Type() {
        FogGuides x = new FogGuides();
        due("type(-1)", x.type(-1), BAD);
        due("type(256)", x.type(256), BAD);
        due("type(0)", x.type(0), 1);
        due("type(255)", x.type(255), 2);
        for (int i = 3; i <= 200; i++) due("type " + i, x.type(32), i);
        due("type 201", x.type(32), FULL);
        due("type(300) when full", x.type(300), BAD);
        due("count(9) when full", x.count(9), 200);
    }

    private static void promise3Clear() {
        FogGuides x = new FogGuides();
        due("clear() of none", x.clear(), 0);
        typeAll(x, "c0;c");
        due("clear()", x.clear(), 4);
        due("clear() again", x.clear(), 0);
        due("type after clear", x.type('c'), 1);
        due("corners after clear", x.count(0), 0);
    }

    private static void promise4TownReads() {
        FogGuides x = new FogGuides();
        due("town() of nothing", x.town(), 0);
        typeAll(x, "   ");
        due("town() of blanks", x.town(), 0);
        due("text behind town()", x.count(9), 0);
        typeAll(x, "  c 0 ; c3; s 1   0 9 ;g5 9 31 15 31 3 ;h9;f1 0 1 0 1 0 1 0; ");
        due("town() with blanks", x.town(), 6);
        due("text behind town()", x.count(9), 0);
        due("street(0, 0) as told", x.street(0, 0), 1);
        due("street(0, 1) as told", x.street(0, 1), 0);
        due("eight bits of fog", x.count(4), 8);
        due("hand", x.count(3), 9);
        typeAll(x, "c0;c0;c0;c0;c0;c0;c0;s0 1 1;s0 1 1;s0 1 1;s0 1 1;s0 1 1;s0 1 1;s0 1 1;s0 1 1;s6 5 1;"
            + "g0 0 0 0 0 0;g0 0 0 0 0 0;g0 0 0 0 0 0;g0 0 0 0 0 0;");
        due("town() at its fullest", x.town(), 20);
        due("corners at their most", x.count(0), 7);
        due("streets at their most", x.count(1), 9);
        due("guides at their most", x.count(2), 4);
        due("hand not told again", x.count(3), 1);
        due("fog not told again", x.count(4), 0);
        due("fog not told again is thick", x.fog(0), 1);
        typeAll(x, "g0 0 1 0 1 0;c1;c2;s0 1 5;");
        due("a guide ahead of the rest", x.town(), 4);
        due("knows a street told behind him", x.guide(0, 2), 1);
        due("has a corner told behind him", x.guide(0, 3), 1);
    }

    private static void promise4TownFaults() {
        dueFault("c", 1);
        dueFault("c  ", 3);
        dueFault("c0", 2);
        dueFault("c4;", 1);
        dueFault("c0 0;", 3);
        dueFault("c;", 1);
        dueFault("cc0;", 0);
        dueFault("c0;x0;", 3);
        dueFault("C0;", 0);
        dueFault(";", 0);
        dueFault("c0;;", 3);
        dueFault("0;", 0);
        dueFault("c00;", 1);
        dueFault("c01;", 1);
        dueFault("c100;", 1);
        dueFault("c99999999999999999999;", 1);
        dueFault("c4294967296;", 1);
        dueFault("c-1;", 1);
        dueFault("c0\t;", 2);
        dueFault("c0\u00e9;", 2);
        dueFault("c0" + (char) 0 + ";", 2);
        dueFault("c0;c0;c0;c0;c0;c0;c0;c0;", 21);
        dueFault("s0 1 1;", 1);
        dueFault("c0;s0 1 1;", 6);
        dueFault("c0;c0;s2 1 1;", 7);
        dueFault("c0;c0;s0 2 1;", 9);
        dueFault("c0;c0;s1 1 1;", 9);
        dueFault("c0;c0;s0 1 0;", 11);
        dueFault("c0;c0;s0 1 10;", 11);
        dueFault("c0;c0;s0 1;", 10);
        dueFault("c0;c0;s0 1 1", 12);
        dueFault("c0;c0;s0 1 1 1;", 13);
        StringBuilder streets = new StringBuilder("c0;c0;");
        for (int i = 0; i < 10; i++) streets.append("s0 1 1;");
        dueFault(streets.toString(), 6 + 9 * 7);
        dueFault("g6 0 0 0 0 0;", 1);
        dueFault("g0 10 0 0 0 0;", 3);
        dueFault("g0 0 32 0 0 0;", 5);
        dueFault("g0 0 0 16 0 0;", 7);
        dueFault("g0 0 0 0 32 0;", 9);
        dueFault("g0 0 0 0 0 4;", 11);
        dueFault("g0 0 0 0 0;", 10);
        dueFault("g0 0 0 0 0 0 0;", 13);
        StringBuilder guides = new StringBuilder();
        for (int i = 0; i < 5; i++) guides.append("g0 0 0 0 0 0;");
        dueFault(guides.toString(), 4 * 13);
        dueFault("f;", 1);
        dueFault("f", 1);
        dueFault("f2;", 1);
        dueFault("f0 2;", 3);
        dueFault("f0 1", 4);
        dueFault("f0 f;", 3);
        dueFault("f0 00;", 3);
        dueFault("f0 1 0 1 0 1 0 1 0;", 17);
        dueFault("f0 1 0 1 0 1 0 1 2;", 17);
        dueFault("f0 1 0 1 0 1 0 1", 16);
        dueFault("f0;f0;", 3);
        dueFault("h10;", 1);
        dueFault("h;", 1);
        dueFault("h0 0;", 3);
        dueFault("h0;h0;", 3);
        dueFault("h0;f0;c0;h", 9);
    }

    private static void promise4TownStartsAnew() {
        FogGuides x = read(TOWN);
        x.hires(0);
        x.leads(0);
        x.keep(0);
        x.feels(1);
        x.went(1);
        x.wishes(0, 1, 5);
        x.rate(0, 0);
        typeAll(x, "c1;q");
        due("a fault", x.town(), -13);
        due("a fault leaves the corner", x.now(0), 1);
        due("a fault leaves the guide", x.now(3), 0);
        due("a fault leaves the town", x.count(0), 5);
        due("a fault leaves the fog", x.fog(0), 0);
        due("a fault leaves what was felt", x.count(5), 1);
        due("a fault leaves the image", x.back(0), 3);
        x.clear();
        typeAll(x, "c1;");
        due("read anew", x.town(), 1);
        int[] counts = {1, 0, 0, 1, 0, 0, 0, 0, 0, 0};
        for (int i = 0; i < counts.length; i++) due("anew: count(" + i + ")", x.count(i), counts[i]);
        int[] now = {0, 0, 0, NONE, 0, 0};
        for (int i = 0; i < now.length; i++) due("anew: now(" + i + ")", x.now(i), now[i]);
        due("anew: undo()", x.undo(), STATE);
        due("anew: back(0)", x.back(0), STATE);
        due("anew: the trace stays", x.trace(), 1);
        x.keep(1);
        due("anew from nothing", x.town(), 0);
        due("anew from nothing: corners", x.count(0), 0);
        due("anew from nothing: now(0)", x.now(0), NONE);
        due("anew from nothing: back(1)", x.back(1), STATE);
    }

    private static void promise5Corner() {
        FogGuides x = read(TOWN);
        int[] marks = {0, 1, 0, 2, 3};
        for (int c = 0; c < marks.length; c++) due("corner(" + c + ")", x.corner(c), marks[c]);
        due("corner(5)", x.corner(5), BAD);
        due("corner(-1)", x.corner(-1), BAD);
        due("corner(7)", x.corner(7), BAD);
    }

    private static void promise6Street() {
        FogGuides x = read(TOWN);
        due("street(3, 0)", x.street(3, 0), 3);
        due("street(3, 1)", x.street(3, 1), 0);
        due("street(3, 2)", x.street(3, 2), 9);
        due("street(3, 3)", x.street(3, 3), BAD);
        due("street(3, -1)", x.street(3, -1), BAD);
        due("street(5, 0)", x.street(5, 0), BAD);
        due("street(-1, 0)", x.street(-1, 0), BAD);
        due("street(9, 2)", x.street(9, 2), BAD);
    }

    private static void promise7Guide() {
        FogGuides x = read("c0;c0;c0;c0;c0;c0;s0 1 1;s1 2 1;s2 3 1;s3 4 1;s4 5 1;s5 0 1;g5 9 31 15 31 3;g1 2 3 1 4 1;");
        due("guide(0, 0)", x.guide(0, 0), 5);
        due("guide(0, 1)", x.guide(0, 1), 9);
        due("guide(0, 2): only streets there are", x.guide(0, 2), 63);
        due("guide(0, 3): only corners there are", x.guide(0, 3), 63);
        due("guide(1, 0)", x.guide(1, 0), 1);
        due("guide(1, 1)", x.guide(1, 1), 2);
        due("guide(1, 2)", x.guide(1, 2), 3 + 32);
        due("guide(1, 3)", x.guide(1, 3), 4 + 32);
        due("guide(1, 4)", x.guide(1, 4), BAD);
        due("guide(1, -1)", x.guide(1, -1), BAD);
        due("guide(2, 0)", x.guide(2, 0), BAD);
        due("guide(-1, 0)", x.guide(-1, 0), BAD);
    }

    private static void promise8Fog() {
        FogGuides x = read("f0 1 1;");
        int[] minutes = {0, 9, 10, 29, 30, 39, 40, 9999, -1, 10000};
        int[] thick = {0, 0, 1, 1, 0, 0, 1, 0, BAD, BAD};
        for (int i = 0; i < minutes.length; i++) due("fog(" + minutes[i] + ")", x.fog(minutes[i]), thick[i]);
    }

    private static void waitUntil(FogGuides x, int minute) {
        for (int i = 0; i < 200 && x.now(1) < minute; i++) x.waits(Math.min(99, minute - x.now(1)));
    }

    private static void promise9Hires() {
        FogGuides x = read(TOWN);
        due("hires(-1)", x.hires(-1), BAD);
        due("hires(3)", x.hires(3), BAD);
        due("hires(1) not his", x.hires(1), STATE);
        x.waits(5);
        due("hires(0) takes no time", x.hires(0), 5);
        due("hires(0) who leads", x.hires(0), STATE);
        due("hires(2) handed over", x.hires(2), 7);
        due("who leads", x.now(3), 2);
        due("hires(0) back", x.hires(0), 9);
        x.leads(0);
        due("hires(2) at another's corner", x.hires(2), STATE);
        due("hires(1) at both's corner", x.hires(1), 14);
        due("refused changes nothing", x.count(8), 6);
        FogGuides y = read("c0;c0;s0 1 1;g0 0 1 0 1 0;g0 0 0 0 2 0;g0 0 0 0 3 0;h0;");
        y.hires(0);
        y.leads(0);
        due("his, but not the other one's", y.hires(1), STATE);
        due("hers, but not the leader's", y.hires(2), STATE);
        y.leads(0);
        due("in no minutes", y.hires(2), 2);
        FogGuides z = read("c0;g0 0 0 0 1 0;g0 0 0 0 1 0;h3;");
        waitUntil(z, 9997);
        due("hires(0) late", z.hires(0), 9997);
        due("handed over too late", z.hires(1), STATE);
        z.leaves();
        waitUntil(z, 9999);
        due("hires(0) in the last minute", z.hires(0), 9999);
        FogGuides none = read("g0 0 0 0 31 3;");
        due("hires(0) with no corners", none.hires(0), STATE);
    }

    private static void promise10Leaves() {
        FogGuides x = read(TOWN);
        due("leaves() nobody", x.leaves(), STATE);
        x.hires(2);
        x.leads(0);
        due("leaves()", x.leaves(), 2);
        due("nobody leads then", x.now(3), NONE);
        due("one is still there", x.now(0), 1);
        due("it takes no time", x.now(1), 3);
        due("leaves() again", x.leaves(), STATE);
        due("it may be undone", x.undo(), 2);
        due("who leads again", x.now(3), 2);
    }

    private static void promise11Leads() {
        FogGuides x = read(TOWN);
        due("leads(0) nobody", x.leads(0), STATE);
        due("leads(-1)", x.leads(-1), BAD);
        due("leads(5)", x.leads(5), BAD);
        x.hires(0);
        due("leads(1) not there", x.leads(1), STATE);
        due("leads(3) not known", x.leads(3), STATE);
        due("leads(0)", x.leads(0), 1);
        due("minute", x.now(1), 3);
        due("paid", x.now(2), 6);
        due("leads(1)", x.leads(1), 2);
        due("leads(1) back", x.leads(1), 1);
        x.hires(1);
        due("leads(1) with a pace", x.leads(1), 2);
        due("minute with hand and pace", x.now(1), 12);
        due("paid with both", x.now(2), 17);
        due("who leads still", x.now(3), 1);
        FogGuides y = read("c0;c0;s0 1 4;g0 0 1 0 1 0;");
        waitUntil(y, 9995);
        y.hires(0);
        due("leads(0) to the last minute", y.leads(0), 1);
        y.undo();
        y.waits(1);
        due("leads(0) too late", y.leads(0), STATE);
        due("leads(0) too late: now(4)", y.now(4), 0);
    }

    private static void promise12Alone() {
        FogGuides x = read("c0;c0;c0;s0 1 9;s1 2 2;s1 2 1;f0 1 0;g0 0 0 0 1 0;");
        due("alone(-1)", x.alone(-1), BAD);
        due("alone(3)", x.alone(3), BAD);
        due("alone(1) not there", x.alone(1), STATE);
        x.hires(0);
        due("alone(0) led", x.alone(0), STATE);
        x.leaves();
        due("alone(0)", x.alone(0), 1);
        due("the minute", x.now(1), 9);
        due("nothing is paid", x.now(2), 0);
        due("alone(1) into the thick", x.alone(1), STATE);
        due("alone(2) just in time", x.alone(2), 2);
        due("the minute", x.now(1), 10);
        due("alone(2) in the thick", x.alone(2), STATE);
        x.waits(10);
        due("alone(1) when thin again", x.alone(1), 1);
        FogGuides y = read("c0;c0;s0 1 1;f0;");
        waitUntil(y, 9998);
        due("alone(0) to the last minute", y.alone(0), 1);
        due("alone(0) too late", y.alone(0), STATE);
        due("thick if no fog is told", read("c0;c0;s0 1 1;").alone(0), STATE);
    }

    private static void promise13Waits() {
        FogGuides x = new FogGuides();
        due("waits(0)", x.waits(0), BAD);
        due("waits(100)", x.waits(100), BAD);
        due("waits(-5)", x.waits(-5), BAD);
        due("waits(1)", x.waits(1), 1);
        due("waits(99)", x.waits(99), 100);
        waitUntil(x, 9990);
        due("waits(10) above", x.waits(10), STATE);
        due("waits(9)", x.waits(9), 9999);
        due("waits(1) above", x.waits(1), STATE);
        FogGuides y = read(TOWN);
        y.hires(2);
        due("waits(7) with a guide", y.waits(7), 7);
        due("nothing is paid", y.now(2), 0);
        due("he still leads", y.now(3), 2);
    }

    private static void promise14Undo() {
        FogGuides x = read(TOWN);
        due("undo() none", x.undo(), STATE);
        x.alone(0);
        x.hires(1);
        x.leads(1);
        x.hires(0);
        x.leaves();
        x.waits(4);
        due("may be undone", x.count(8), 5);
        due("undo waits", x.undo(), 4);
        due("the minute", x.now(1), 6);
        due("undo leaves", x.undo(), 3);
        due("who leads", x.now(3), 1);
        due("undo leads", x.undo(), 2);
        due("the corner", x.now(0), 1);
        due("paid", x.now(2), 0);
        due("undo hires", x.undo(), 1);
        due("nobody leads", x.now(3), NONE);
        due("undo alone", x.undo(), 0);
        due("the corner", x.now(0), 0);
        due("the minute", x.now(1), 0);
        for (int i = 1; i <= 12; i++) x.waits(i);
        due("ten are known", x.count(8), 10);
        for (int i = 9; i >= 0; i--) due("undo() leaves " + i, x.undo(), i);
        due("older ones are lost", x.undo(), STATE);
        due("as ahead of the oldest known", x.now(1), 3);
    }

    private static void promise15Now() {
        FogGuides x = read(TOWN);
        due("now(-1)", x.now(-1), BAD);
        due("now(6)", x.now(6), BAD);
        due("now(4) alone", x.now(4), 1 + 8 + 16);
        due("now(5) with nobody", x.now(5), 1 + 4);
        x.waits(1);
        due("now(4) alone, nine minutes of thin", x.now(4), 1 + 8 + 16);
        x.waits(1);
        due("now(4) alone, eight minutes of thin", x.now(4), 1 + 16);
        x.waits(8);
        due("now(4) alone in the thick", x.now(4), 0);
        x.hires(0);
        due("now(4) led", x.now(4), 1);
        due("now(5) led: not who leads", x.now(5), 4);
        x.hires(2);
        due("now(4) led by another", x.now(4), 1 + 8);
        x.leads(3);
        due("now(0)", x.now(0), 3);
        due("now(1)", x.now(1), 21);
        due("now(2)", x.now(2), 81);
        due("now(3)", x.now(3), 2);
        due("now(4) there", x.now(4), 4 + 8);
        due("now(5) there", x.now(5), 2);
        x.leads(2);
        due("now(5) where it is not the leader's", x.now(5), 0);
        FogGuides y = read("c0;g0 0 0 0 1 0;g0 0 0 0 1 0;h9;");
        y.hires(1);
        waitUntil(y, 9990);
        due("now(5) just in time", y.now(5), 1);
        y.waits(1);
        due("now(5) too late", y.now(5), 0);
    }

    private static void dueRoute(FogGuides x, boolean soon, int from, int to, int... want) {
        for (int what = 0; what < 3; what++) {
            int got = soon ? x.soonest(from, to, what) : x.cheapest(from, to, what);
            due((soon ? "soonest(" : "cheapest(") + from + ", " + to + ", " + what + ")", got, want[what]);
        }
    }

    private static void dueRouteBad(FogGuides x, boolean soon) {
        int[][] calls = {{-1, 0, 0}, {0, -1, 0}, {5, 0, 0}, {0, 5, 0}, {0, 0, 3}, {0, 0, -1}, {0, 1, 3}};
        for (int[] c : calls) {
            int got = soon ? x.soonest(c[0], c[1], c[2]) : x.cheapest(c[0], c[1], c[2]);
            due("a route " + c[0] + ", " + c[1] + ", " + c[2], got, BAD);
        }
    }

    private static void promise16Soonest() {
        FogGuides x = read(TOWN);
        dueRoute(x, true, 0, 0, 0, 0, NONE);
        dueRoute(x, true, 4, 4, 0, 0, NONE);
        dueRoute(x, true, 0, 1, 3, 6, 0);
        dueRoute(x, true, 0, 2, 5, 10, 0);
        dueRoute(x, true, 0, 3, 9, 81, 2);
        dueRoute(x, true, 0, 4, NONE, NONE, NONE);
        dueRoute(x, true, 4, 0, NONE, NONE, NONE);
        dueRouteBad(x, true);
        x.hires(0);
        x.leads(0);
        dueRoute(x, true, 0, 3, 9, 81, 2);
        FogGuides y = read("c0;c0;s0 1 2;s0 1 2;g0 3 1 0 1 0;g0 2 2 0 1 0;g0 2 2 0 1 0;g1 0 3 0 1 0;");
        dueRoute(y, true, 0, 1, 2, 4, 1);
        FogGuides z = read("c0;c0;s0 1 2;g5 0 0 0 1 0;g0 2 1 0 1 0;h0;");
        dueRoute(z, true, 0, 1, 2, 4, 0);
    }

    private static void promise17Cheapest() {
        FogGuides x = read(TOWN);
        dueRoute(x, false, 0, 0, 0, 0, NONE);
        dueRoute(x, false, 0, 1, 3, 6, 0);
        dueRoute(x, false, 0, 2, 8, 9, 0);
        dueRoute(x, false, 0, 3, 13, 14, 0);
        dueRoute(x, false, 3, 0, 10, 10, 1);
        dueRoute(x, false, 0, 4, NONE, NONE, NONE);
        dueRouteBad(x, false);
        FogGuides y = read("c0;c0;s0 1 2;s0 1 3;g0 0 2 0 1 0;g0 0 1 0 1 0;g1 0 1 0 1 0;");
        dueRoute(y, false, 0, 1, 2, 0, 1);
    }

    private static void promise18ByOne() {
        FogGuides x = read(TOWN);
        due("byOne(0, 1)", x.byOne(0, 1), 1 + 4);
        due("byOne(0, 2)", x.byOne(0, 2), 1 + 4);
        due("byOne(0, 3)", x.byOne(0, 3), 4);
        due("byOne(1, 0)", x.byOne(1, 0), 1 + 2);
        due("byOne(2, 0)", x.byOne(2, 0), 2);
        due("byOne(0, 4)", x.byOne(0, 4), 0);
        due("byOne(0, 0)", x.byOne(0, 0), 1 + 4);
        due("byOne(4, 4)", x.byOne(4, 4), 0);
        due("byOne(-1, 0)", x.byOne(-1, 0), BAD);
        due("byOne(0, -1)", x.byOne(0, -1), BAD);
        due("byOne(5, 0)", x.byOne(5, 0), BAD);
        due("byOne(0, 5)", x.byOne(0, 5), BAD);
    }

    private static void promise19ForFee() {
        FogGuides x = read("c0;c0;c0;s0 1 1;s1 2 2;s0 2 9;s0 1 4;g0 1 15 0 1 0;g1 2 15 0 3 0;g0 0 15 0 1 0;g0 1 15 0 2 0;");
        due("forFee(0, 2, 3)", x.forFee(0, 2, 3), 1);
        due("forFee(0, 2, 6)", x.forFee(0, 2, 6), 1);
        due("forFee(0, 2, 9)", x.forFee(0, 2, 9), 1);
        due("forFee(0, 2, 10)", x.forFee(0, 2, 10), 2);
        due("forFee(0, 2, 20)", x.forFee(0, 2, 20), 2);
        due("forFee(0, 2, 5): a corner twice", x.forFee(0, 2, 5), 0);
        due("forFee(0, 2, 0)", x.forFee(0, 2, 0), 4);
        due("forFee(0, 1, 11)", x.forFee(0, 1, 11), 1);
        due("forFee(0, 0, 0)", x.forFee(0, 0, 0), 7);
        due("forFee(0, 0, 2)", x.forFee(0, 0, 2), 0);
        due("forFee(2, 0, 3)", x.forFee(2, 0, 3), 0);
        due("forFee(0, 2, 999)", x.forFee(0, 2, 999), 0);
        due("forFee(0, 2, 1000)", x.forFee(0, 2, 1000), BAD);
        due("forFee(0, 2, -1)", x.forFee(0, 2, -1), BAD);
        due("forFee(3, 2, 0)", x.forFee(3, 2, 0), BAD);
        due("forFee(0, 3, 0)", x.forFee(0, 3, 0), BAD);
        due("forFee(-1, 0, 0)", x.forFee(-1, 0, 0), BAD);
        due("forFee(0, -1, 0)", x.forFee(0, -1, 0), BAD);
        FogGuides y = read("c0;c0;c0;c0;c0;c0;c0;s0 1 9;s1 2 9;s2 3 9;s3 4 9;s4 5 9;s5 6 9;g5 9 31 1 1 0;");
        due("the longest way", y.forFee(0, 6, 6 * 14 * 9), 1);
        due("one less", y.forFee(0, 6, 6 * 14 * 9 - 1), 0);
    }

    private static void promise20ByBells() {
        FogGuides x = read("c3;c3;c1;c0;s0 1 5;s0 1 2;s1 2 5;f0 0 1 1 0;");
        due("byBells(0, 0, 2)", x.byBells(0, 0, 2), 7);
        due("byBells(0, 13, 2)", x.byBells(0, 13, 2), 7);
        due("byBells(0, 14, 2)", x.byBells(0, 14, 2), 31);
        due("byBells(0, 9999, 2)", x.byBells(0, 9999, 2), 7);
        due("byBells(0, 20, 0)", x.byBells(0, 20, 0), 0);
        due("byBells(0, 0, 3)", x.byBells(0, 0, 3), NONE);
        due("byBells(-1, 0, 2)", x.byBells(-1, 0, 2), BAD);
        due("byBells(0, 0, 4)", x.byBells(0, 0, 4), BAD);
        due("byBells(0, -1, 2)", x.byBells(0, -1, 2), BAD);
        due("byBells(0, 10000, 2)", x.byBells(0, 10000, 2), BAD);
        x.waits(50);
        due("nothing of now counts", x.byBells(0, 0, 2), 7);
        FogGuides y = read("c0;c0;s0 1 1;");
        due("byBells, always thick", y.byBells(0, 0, 1), NONE);
        due("byBells, always thick, there", y.byBells(0, 0, 0), 0);
        byBellsAtMost();
    }

    /** Streets of 9 minutes, of which only one fits into each thin while, which comes each 80 minutes. */
    private static void byBellsAtMost() {
        FogGuides x = read("c0;c0;c0;c0;c0;c0;c0;s0 1 9;s1 2 9;s2 3 9;s3 4 9;s4 5 9;s5 6 9;f0 1 1 1 1 1 1 1;");
        due("byBells(0, 0, 6)", x.byBells(0, 0, 6), 409);
        due("byBells(0, 2, 6)", x.byBells(0, 2, 6), 487);
        due("byBells(1, 1, 6)", x.byBells(1, 1, 6), 328);
        FogGuides y = read("c0;c0;c0;c0;c0;c0;c0;s0 1 9;s1 2 9;s2 3 9;s3 4 9;s4 5 9;s5 6 9;f1 1 1 1 1 1 1 0;");
        due("byBells(0, 0, 6) of 479", y.byBells(0, 0, 6), 479);
        due("byBells(0, 72, 6) of 487", y.byBells(0, 72, 6), 487);
    }

    private static void promise21Taught() {
        FogGuides x = read("c0;c0;c0;c0;c0;s0 1 1;s1 2 1;s3 4 1;s2 3 1;g0 0 1 0 1 0;g0 0 4 0 1 0;g0 0 15 0 1 0;g0 0 0 0 0 0;");
        due("taught(0, 0)", x.taught(0, 0), 1);
        due("taught(0, 1)", x.taught(0, 1), 3);
        due("taught(1, 0)", x.taught(1, 0), 0);
        due("taught(1, 1)", x.taught(1, 1), 2);
        due("taught(2, 0) knows all", x.taught(2, 0), NONE);
        due("taught(2, 1) knows all", x.taught(2, 1), NONE);
        due("taught(3, 0) with no corner", x.taught(3, 0), 0);
        due("taught(3, 1) with no corner", x.taught(3, 1), 0);
        due("taught(4, 0)", x.taught(4, 0), BAD);
        due("taught(-1, 0)", x.taught(-1, 0), BAD);
        due("taught(0, 2)", x.taught(0, 2), BAD);
        due("taught(0, -1)", x.taught(0, -1), BAD);
        FogGuides y = read("c0;c0;c0;c0;c0;s0 1 1;s2 3 1;s3 4 1;s1 2 1;g0 0 6 0 17 0;");
        due("of several the least", y.taught(0, 0), 0);
        due("from some corner that is his", y.taught(0, 1), 5);
        due("nothing is taught", y.guide(0, 2), 6);
    }

    private static void promise22Feels() {
        FogGuides x = new FogGuides();
        due("feels(-1)", x.feels(-1), BAD);
        due("feels(4)", x.feels(4), BAD);
        for (int i = 1; i <= 6; i++) due("feels " + i, x.feels(i % 4), i);
        due("feels 7", x.feels(0), FULL);
        due("feels(4) when full", x.feels(4), BAD);
    }

    private static void promise23Went() {
        FogGuides x = read(TOWN);
        due("went(-1)", x.went(-1), BAD);
        due("went(5)", x.went(5), BAD);
        due("went(3)", x.went(3), 1);
        due("went(1) no street", x.went(1), STATE);
        due("went(3) no street to itself", x.went(3), STATE);
        due("went(0)", x.went(0), 2);
        due("went(1)", x.went(1), 3);
        due("went(2)", x.went(2), 4);
        due("went(3)", x.went(3), 5);
        due("went(2)", x.went(2), 6);
        due("went(1) when full", x.went(1), FULL);
        due("went(4) no street, when full", x.went(4), STATE);
        due("went(5) when full", x.went(5), BAD);
        due("count(6)", x.count(6), 6);
    }

    private static void promise24Forget() {
        FogGuides x = read(TOWN);
        due("forget() nothing", x.forget(), 0);
        x.feels(1);
        x.feels(1);
        x.went(2);
        due("forget()", x.forget(), 3);
        due("nothing felt", x.count(5), 0);
        due("nothing went", x.count(6), 0);
        due("went(4) is a first one", x.went(4), 1);
    }

    private static void dueFits(FogGuides x, int... want) {
        for (int what = 0; what < 4; what++) due("fits(" + what + ")", x.fits(what), want[what]);
    }

    private static void promise25Fits() {
        FogGuides x = read(TOWN);
        dueFits(x, 0, 0, 0, 0);
        due("fits(-1)", x.fits(-1), BAD);
        due("fits(4)", x.fits(4), BAD);
        x.feels(0);
        dueFits(x, 2, 1 + 4, 1 + 4, 2);
        x.feels(1);
        dueFits(x, 2, 2, 1 + 4, 1);
        x.feels(0);
        dueFits(x, 4, 1 + 4, 1 + 4, 2);
        x.feels(3);
        dueFits(x, 0, 0, 0, 0);
        x.forget();
        x.feels(3);
        dueFits(x, 1, 16, 16, 0);
        x.forget();
        x.feels(1);
        x.feels(0);
        x.feels(2);
        dueFits(x, 2, 8, 2, 1);
        FogGuides y = read("c0;c0;c0;c0;s0 1 1;s0 2 1;s0 3 1;s1 2 1;s1 3 1;s2 3 1;");
        for (int i = 0; i < 6; i++) y.feels(0);
        dueFits(y, 4 * 3 * 3 * 3 * 3 * 3, 15, 15, 1);
    }

    private static void promise26FalseMark() {
        FogGuides x = read(TOWN);
        due("nothing felt, went", x.falseMark(), 0);
        int[] row = {0, 1, 2, 1};
        for (int c : row) x.went(c);
        x.feels(0);
        due("not as many", x.falseMark(), 0);
        x.feels(3);
        x.feels(0);
        x.feels(3);
        due("corner 1 is false", x.falseMark(), 2);
        x.feels(3);
        due("more felt", x.falseMark(), 0);
        dueFalse(x, row, new int[] {0, 3, 0, 2}, 0);
        dueFalse(x, row, new int[] {0, 3, 0, 1}, 0);
        dueFalse(x, row, new int[] {0, 1, 0, 1}, 0);
        dueFalse(x, row, new int[] {0, 1, 2, 1}, 4);
        dueFalse(x, row, new int[] {3, 1, 0, 1}, 1);
        dueFalse(x, row, new int[] {3, 1, 3, 1}, 0);
        dueFalse(x, new int[] {4}, new int[] {0}, 16);
    }

    private static void dueFalse(FogGuides x, int[] row, int[] marks, int want) {
        x.forget();
        for (int c : row) x.went(c);
        for (int m : marks) x.feels(m);
        due("falseMark() of " + java.util.Arrays.toString(marks), x.falseMark(), want);
    }

    private static void promise27Wishes() {
        FogGuides x = read(TOWN);
        int[][] bad = {{-1, 0, 0}, {0, -1, 0}, {5, 0, 0}, {0, 5, 0}, {1, 1, 0}, {0, 1, -1}, {0, 1, 100}};
        for (int[] w : bad) due("a bad wish", x.wishes(w[0], w[1], w[2]), BAD);
        due("wishes(0, 1, 0)", x.wishes(0, 1, 0), 1);
        due("wishes(1, 0, 99)", x.wishes(1, 0, 99), 2);
        due("wishes(0, 4, 9)", x.wishes(0, 4, 9), 3);
        due("wishes(0, 4, 9) again", x.wishes(0, 4, 9), 4);
        due("a fifth", x.wishes(0, 1, 0), FULL);
        for (int[] w : bad) due("a bad fifth", x.wishes(w[0], w[1], w[2]), BAD);
    }

    private static void promise28Grants() {
        FogGuides x = read(TOWN);
        due("grants() none", x.grants(), 0);
        x.wishes(0, 1, 5);
        x.wishes(0, 2, 5);
        due("grants()", x.grants(), 2);
        due("count(7)", x.count(7), 0);
        due("nothing is worth anything then", x.day(0, 0, 99, 0), 0);
        due("wishes() begins anew", x.wishes(0, 1, 5), 1);
    }

    private static void dueDay(FogGuides x, int g, int from, int n, int worth, int set) {
        due("day(" + g + ", " + from + ", " + n + ", 0)", x.day(g, from, n, 0), worth);
        due("day(" + g + ", " + from + ", " + n + ", 1)", x.day(g, from, n, 1), set);
    }

    private static void promise29Day() {
        FogGuides x = read("c0;c0;c0;c0;s0 1 3;s1 2 4;s0 2 9;s2 3 1;g1 0 7 0 1 0;g0 0 7 0 7 0;");
        dueDay(x, 0, 0, 99, 0, 0);
        x.wishes(1, 2, 10);
        x.wishes(0, 1, 3);
        x.wishes(2, 0, 0);
        x.wishes(0, 3, 99);
        dueDay(x, 0, 0, 0, 0, 0);
        dueDay(x, 0, 0, 3, 0, 0);
        dueDay(x, 0, 0, 4, 3, 2);
        dueDay(x, 0, 0, 8, 3, 2);
        dueDay(x, 0, 0, 9, 13, 3);
        dueDay(x, 0, 0, 99, 13, 3);
        dueDay(x, 1, 1, 4, 10, 1);
        dueDay(x, 1, 1, 6, 10, 1);
        dueDay(x, 1, 1, 9, 10, 1);
        dueDay(x, 1, 1, 10, 13, 3);
        due("day(-1, ..)", x.day(-1, 0, 9, 0), BAD);
        due("day(2, ..)", x.day(2, 0, 9, 0), BAD);
        due("day(0, 1, ..) not his", x.day(0, 1, 9, 0), BAD);
        due("day(0, -1, ..)", x.day(0, -1, 9, 0), BAD);
        due("day(0, 4, ..)", x.day(0, 4, 9, 0), BAD);
        due("day(0, 0, -1, 0)", x.day(0, 0, -1, 0), BAD);
        due("day(0, 0, 100, 0)", x.day(0, 0, 100, 0), BAD);
        due("day(0, 0, 9, 2)", x.day(0, 0, 9, 2), BAD);
        due("day(0, 0, 9, -1)", x.day(0, 0, 9, -1), BAD);
        FogGuides y = read("c0;c0;c0;c0;c0;s0 1 1;s0 2 1;s0 3 1;s0 4 1;g0 0 15 0 1 0;");
        y.wishes(4, 0, 5);
        y.wishes(3, 0, 2);
        y.wishes(2, 0, 3);
        y.wishes(1, 0, 5);
        dueDay(y, 0, 0, 2, 5, 1);
        dueDay(y, 0, 0, 4, 10, 9);
        dueDay(y, 0, 0, 8, 15, 15);
        y.grants();
        y.wishes(4, 0, 2);
        y.wishes(3, 0, 3);
        y.wishes(2, 0, 5);
        dueDay(y, 0, 0, 5, 8, 6);
        y.grants();
        y.wishes(1, 2, 5);
        y.wishes(0, 1, 2);
        y.wishes(2, 0, 3);
        dueDay(y, 0, 0, 4, 10, 7);
    }

    private static void promise30Rate() {
        FogGuides x = read("c0;c0;c0;s0 1 1;s1 2 1;g4 7 31 15 31 3;g0 1 3 0 0 0;");
        x.waits(30);
        int[] first = {7, 11, 5, 22, 8, 37};
        int[] second = {1, 1, -1, 2, -1, 31};
        for (int kind = 0; kind < 6; kind++) {
            due("rate(" + kind + ", 0)", x.rate(kind, 0), first[kind]);
            due("rate(" + kind + ", 1)", x.rate(kind, 1), second[kind]);
        }
        due("rate(-1, 0)", x.rate(-1, 0), NO);
        due("rate(6, 0)", x.rate(6, 0), NO);
        due("rate(0, -1)", x.rate(0, -1), NO);
        due("rate(0, 2)", x.rate(0, 2), NO);
    }

    private static void promise31Keep() {
        FogGuides x = read(TOWN);
        due("keep(-1)", x.keep(-1), BAD);
        due("keep(2)", x.keep(2), BAD);
        due("keep(0)", x.keep(0), 0);
        x.waits(9);
        due("keep(1)", x.keep(1), 9);
        due("keep is not undone", x.count(8), 1);
        x.waits(1);
        due("keep(1) over it", x.keep(1), 10);
        x.waits(1);
        due("back(1)", x.back(1), 10);
        due("back(0)", x.back(0), 0);
        due("keep() with no corners", new FogGuides().keep(0), 0);
    }

    private static void promise32Back() {
        FogGuides x = read(TOWN);
        due("back(-1)", x.back(-1), BAD);
        due("back(2)", x.back(2), BAD);
        due("back(0) none kept", x.back(0), STATE);
        x.hires(2);
        x.leads(3);
        x.keep(0);
        due("back(1) none kept", x.back(1), STATE);
        x.feels(1);
        x.wishes(0, 1, 1);
        x.rate(0, 0);
        x.leaves();
        x.undo();
        x.undo();
        x.undo();
        for (int i = 0; i < 12; i++) x.waits(50);
        for (int again = 0; again < 2; again++) {
            due("back(0)", x.back(0), 9);
            int[] now = {3, 9, 81, 2};
            for (int i = 0; i < now.length; i++) due("back: now(" + i + ")", x.now(i), now[i]);
            due("back: what may be undone", x.count(8), 2);
            due("back: undo()", x.undo(), 1);
            due("back: the corner", x.now(0), 0);
            due("back: undo()", x.undo(), 0);
            due("back: who leads", x.now(3), NONE);
            x.waits(40);
            x.waits(40);
        }
        due("felt stays", x.count(5), 1);
        due("wishes stay", x.count(7), 1);
        due("the trace stays", x.trace(), 1);
    }

    private static void promise33Count() {
        FogGuides x = read(TOWN);
        x.feels(0);
        x.feels(0);
        x.feels(1);
        x.went(0);
        x.went(1);
        x.wishes(0, 1, 1);
        x.waits(1);
        x.waits(1);
        x.waits(1);
        x.waits(1);
        x.type('c');
        int[] counts = {5, 5, 3, 2, 3, 3, 2, 1, 4, 1};
        for (int i = 0; i < counts.length; i++) due("count(" + i + ")", x.count(i), counts[i]);
        due("count(-1)", x.count(-1), BAD);
        due("count(10)", x.count(10), BAD);
    }

    private static void promise34Trace() {
        FogGuides x = read(TOWN);
        long[] comes = {1, 11, 101, 1011, 10101, 100001};
        long sum = 0;
        for (int kind = 0; kind < 6; kind++) {
            x.rate(kind, 0);
            sum += comes[kind];
            due("trace() behind " + kind, x.trace(), sum);
        }
        x.rate(6, 0);
        x.rate(0, 3);
        due("trace() behind what is refused", x.trace(), sum);
        x.hires(0);
        x.undo();
        due("trace() behind undo", x.trace(), sum);
    }
}
