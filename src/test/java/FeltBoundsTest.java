/** Promises 22 to 30, 33 and 34: what was felt, a day, kinds and counts, at the boundaries that the document names. */
public final class FeltBoundsTest {
    // 0 - 1 - 2 - 3 in a row, two streets between 0 and 1, and corner 4 that no street leads to.
    private static final String ROW = "c0;c1;c0;c2;c3;s0 1 1;s1 0 2;s1 2 3;s2 3 4;";
    private static final String MIN = "-2147483648", MAX = "2147483647";

    public static void main(String[] args) {
        feels();
        went();
        forgotten();
        fitsNothing();
        fitsRows();
        fitsMost();
        tells();
        falseOfNone();
        falseOfOne();
        falseOfOneTwice();
        falseAtItsLongest();
        wishes();
        grants();
        dayRefused();
        dayInTime();
        dayOfSeveral();
        dayByTheShortestWay();
        dayOverEachCorner();
        dayOfAllRows();
        rateRefused();
        rates();
        rateAtItsEnds();
        counts();
        traces();
        traceStays();
        Script.end();
    }

    private static void feels() {
        new Script("A MARK (0 .. 3) FELT: how many. BAD; FULL").due("feels -1 = BAD", "feels 4 = BAD")
            .due("feels " + MIN + " = BAD")
            .due("feels " + MAX + " = BAD", "count 5 = 0", "feels 0 = 1", "feels 3 = 2", "feels 1 = 3", "feels 2 = 4")
            .due("feels 0 = 5");
        new Script("FELT (6 at most)").told(ROW)
            .due("feels 0 = 1", "feels 1 = 2", "feels 0 = 3", "feels 1 = 4", "feels 0 = 5", "feels 1 = 6", "feels 0 = FULL")
            .due("feels 3 = FULL")
            .due("feels -1 = BAD", "feels 4 = BAD", "count 5 = 6", "fits 1 = 2", "forget = 6", "feels 0 = 1");
    }

    private static void went() {
        new Script("A CORNER of WENT: how many. BAD").told(ROW).due("went -1 = BAD", "went 5 = BAD", "went 7 = BAD")
            .due("went " + MIN + " = BAD")
            .due("went " + MAX + " = BAD", "count 6 = 0", "went 4 = 1", "went 5 = BAD", "count 6 = 1");
        new Script("STATE: no STREET from the one ahead of it leads there").told(ROW)
            .due("went 1 = 1", "went 1 = STATE", "went 3 = STATE")
            .due("went 4 = STATE", "count 6 = 1", "went 0 = 2", "went 2 = STATE", "went 1 = 3", "went 2 = 4", "went 3 = 5")
            .due("went 0 = STATE");
        new Script("the first may be any CORNER").told(ROW).due("went 4 = 1", "went 3 = STATE", "went 4 = STATE")
            .due("forget = 1", "went 3 = 1");
        new Script("WENT, 6 at most").told(ROW).due("went 0 = 1", "went 1 = 2", "went 0 = 3", "went 1 = 4", "went 2 = 5")
            .due("went 3 = 6")
            .due("went 2 = FULL", "went 1 = STATE", "went 4 = STATE", "went 3 = STATE", "went 5 = BAD", "went -1 = BAD")
            .due("count 6 = 6");
    }

    private static void forgotten() {
        new Script("Nothing FELT, WENT: how much both were").told(ROW).due("forget = 0", "feels 1 = 1", "forget = 1")
            .due("went 0 = 1", "forget = 1")
            .due("feels 1 = 1", "went 0 = 1", "forget = 2", "count 5 = 0", "count 6 = 0", "fits * = 0 0 0 0")
            .due("falseMark = 0", "forget = 0");
        new Script("Nothing FELT fits, whatever fitted ahead of it").told("c0;c0;s0 1 1;")
            .due("feels 0 = 1", "fits * = 2 3 3 1", "forget = 1")
            .due("fits * = 0 0 0 0", "feels 0 = 1", "feels 0 = 2", "fits * = 2 3 3 1", "forget = 2", "fits * = 0 0 0 0");
        Script most = new Script("Nothing FELT, WENT: how much both were").told(ROW);
        for (int i = 1; i <= 6; i++) most.due("feels 0 = " + i, "went " + i % 2 + " = " + i);
        most.due("forget = 12", "forget = 0");
    }

    private static void fitsNothing() {
        new Script("none, if nothing was FELT").told(ROW).due("fits * = 0 0 0 0 BAD", "went 0 = 1", "fits * = 0 0 0 0 BAD")
            .due("fits -1 = BAD")
            .due("fits " + MAX + " = BAD", "fits " + MIN + " = BAD");
        new Script("there are no CORNERS").due("feels 0 = 1", "fits * = 0 0 0 0 BAD", "falseMark = 0");
        new Script("no CORNER has such a MARK").told("c0;c1;c2;s0 1 1;").due("feels 3 = 1", "fits * = 0 0 0 0", "forget = 1")
            .due("feels 2 = 1", "fits * = 1 4 4 0", "feels 2 = 2", "fits * = 0 0 0 0", "feels 2 = 3", "fits * = 0 0 0 0");
    }

    private static void fitsRows() {
        new Script("rows of CORNERS by which it can be so").told(ROW).due("feels 0 = 1", "fits * = 2 5 5 2", "feels 1 = 2")
            .due("fits * = 2 2 5 1")
            .due("feels 0 = 3", "fits * = 4 5 5 2", "feels 2 = 4", "fits * = 2 8 5 1", "feels 0 = 5", "fits * = 2 4 5 2")
            .due("feels 0 = 6")
            .due("fits * = 0 0 0 0");
        new Script("two STREETS between the same CORNERS are one row").told("c0;c1;s0 1 1;s0 1 2;s1 0 3;")
            .due("feels 0 = 1", "feels 1 = 2")
            .due("fits * = 1 2 1 1", "feels 0 = 3", "fits * = 1 1 1 1");
        new Script("one does not stay at a CORNER").told("c0;c0;s0 1 1;")
            .due("feels 0 = 1", "fits * = 2 3 3 1", "feels 0 = 2", "fits * = 2 3 3 1")
            .told("c0;").due("feels 0 = 1", "fits * = 1 1 1 0", "feels 0 = 2", "fits * = 0 0 0 0");
        new Script("the first: where one began").told("c0;c1;c2;c1;s0 1 1;s1 2 1;s2 3 1;")
            .due("feels 1 = 1", "feels 2 = 2", "feels 1 = 3")
            .due("fits * = 4 10 10 2", "feels 0 = 4", "fits * = 2 1 10 1");
    }

    private static void fitsMost() {
        Script script = new Script("FELT (6 at most): FITS")
            .told("c0;c0;c0;c0;c0;c0;c0;s6 0 1;s6 1 1;s6 2 1;s6 3 1;s6 4 1;s6 5 1;");
        int[] rows = {7, 12, 42, 72, 252, 432};
        for (int i = 1; i <= 6; i++) script.due("feels 0 = " + i, "fits * = " + rows[i - 1] + " 127 127 1");
        script.due("feels 0 = FULL", "fits * = 432 127 127 1");
    }

    private static void tells() {
        new Script("how many unlike MARKS there are").told("c0;c1;c2;c3;c0;c1;s0 1 1;s0 2 1;s0 3 1;s0 4 1;s0 5 1;")
            .due("feels 0 = 1")
            .due("fits * = 2 17 17 4", "feels 0 = 2", "fits * = 2 17 17 4", "feels 3 = 3", "fits * = 1 8 16 1");
        new Script("no STREET from where one can be now").told("c0;c1;c2;s1 2 1;").due("feels 0 = 1", "fits * = 1 1 1 0");
        new Script("of all STREETS from where one can be now").told("c0;c1;c0;c1;s0 1 1;s2 3 1;")
            .due("feels 0 = 1", "fits * = 2 5 5 1")
            .told("c0;c1;c0;c2;s0 1 1;s2 3 1;").due("feels 0 = 1", "fits * = 2 5 5 2").told("c0;c1;c0;c2;s0 1 1;s3 1 1;")
            .due("feels 0 = 1", "fits * = 2 5 5 1");
    }

    private static void falseOfNone() {
        new Script("0: none, or WENT and FELT are not as many").told(ROW)
            .due("falseMark = 0", "feels 3 = 1", "falseMark = 0", "went 0 = 1")
            .due("falseMark = 1", "went 1 = 2", "falseMark = 0", "feels 1 = 2", "falseMark = 1", "feels 0 = 3")
            .due("falseMark = 0");
        new Script("all that was FELT is as told").told(ROW).due("went 0 = 1", "feels 0 = 1", "falseMark = 0", "went 1 = 2")
            .due("feels 1 = 2", "falseMark = 0");
        new Script("just one CORNER has another MARK").told(ROW).due("went 0 = 1", "feels 1 = 1", "falseMark = 1")
            .due("went 1 = 2", "feels 0 = 2", "falseMark = 0");
    }

    private static void falseOfOne() {
        for (int c = 0; c < 5; c++) {
            for (int mark = 0; mark < 4; mark++) {
                boolean told = mark == new int[] {0, 1, 0, 2, 3}[c];
                new Script("unlike what was told").told(ROW).due("went " + c + " = 1", "feels " + mark + " = 1")
                    .due("falseMark = " + (told ? 0 : 1 << c))
                    .due("corner " + c + " = " + new int[] {0, 1, 0, 2, 3}[c]);
            }
        }
        new Script("all others as told").told(ROW).due("went 0 = 1", "went 1 = 2", "went 2 = 3", "feels 0 = 1")
            .due("feels 2 = 2", "feels 0 = 3", "falseMark = 2")
            .due("forget = 6", "went 0 = 1", "went 1 = 2", "went 2 = 3", "feels 0 = 1", "feels 2 = 2", "feels 3 = 3")
            .due("falseMark = 0");
    }

    private static void falseOfOneTwice() {
        String[] felt = {"2 0 2", "3 0 3", "0 0 0", "2 0 3", "3 0 2", "2 0 1", "1 0 2", "1 0 1", "1 3 1", "2 3 2"};
        int[] due = {2, 2, 2, 0, 0, 0, 0, 0, 1, 0};
        for (int i = 0; i < felt.length; i++) {
            String[] marks = felt[i].split(" ");
            new Script("each CORNER of WENT with all its MARKS FELT alike").told(ROW)
                .due("went 1 = 1", "went 0 = 2", "went 1 = 3")
                .due("feels " + marks[0] + " = 1", "feels " + marks[1] + " = 2", "feels " + marks[2] + " = 3")
                .due("falseMark = " + due[i]);
        }
    }

    private static void falseAtItsLongest() {
        int[] marks = {0, 1, 2, 3, 0, 1, 2};
        for (int off = -1; off < 6; off++) {
            Script script = new Script("WENT, 6 at most: FALSE")
                .told("c0;c1;c2;c3;c0;c1;c2;s0 1 1;s1 2 1;s2 3 1;s3 4 1;s4 5 1;s5 6 1;");
            for (int i = 0; i < 6; i++) {
                int mark = i == off ? (marks[6 - i] + 1) % 4 : marks[6 - i];
                script.due("went " + (6 - i) + " = " + (i + 1), "feels " + mark + " = " + (i + 1));
            }
            script.due("falseMark = " + (off < 0 ? 0 : 1 << 6 - off), "count 5 = 6", "count 6 = 6");
        }
    }

    private static void wishes() {
        String[] bad = {"-1 0 0", "0 -1 0", "5 0 0", "0 5 0", "0 0 0", "4 4 9", "0 1 -1", "0 1 100", MAX + " 0 0", "0 " + MIN + " 0", "0 1 " + MAX, "7 7 7"};
        Script script = new Script("from a CORNER to another one (unlike), worth so much (0 .. 99)").told(ROW);
        for (String wish : bad) script.due("wishes " + wish + " = BAD");
        script.due("count 7 = 0", "wishes 0 1 0 = 1", "wishes 1 0 99 = 2", "wishes 4 0 1 = 3", "wishes 0 4 1 = 4")
            .due("count 7 = 4");
        for (String wish : bad) script.due("wishes " + wish + " = BAD");
        script.due("wishes 0 1 0 = FULL", "wishes 1 0 99 = FULL", "count 7 = 4", "grants = 4", "wishes 0 1 0 = 1");
        new Script("WISHES (4 at most): a fifth is not done").told("c0;c0;s0 1 1;g0 0 1 0 3 0;")
            .due("wishes 0 1 1 = 1", "wishes 0 1 2 = 2")
            .due("wishes 0 1 3 = 3", "wishes 0 1 4 = 4", "wishes 0 1 99 = FULL", "day 0 0 99 * = 10 15");
    }

    private static void grants() {
        new Script("There are no WISHES: how many there were").told("c0;c0;s0 1 1;g0 0 1 0 3 0;")
            .due("grants = 0", "wishes 0 1 7 = 1", "day 0 0 9 0 = 7")
            .due("grants = 1", "grants = 0", "count 7 = 0", "day 0 0 9 * = 0 0", "wishes 1 0 3 = 1", "day 0 0 9 * = 3 1")
            .due("grants = 1");
    }

    private static void dayRefused() {
        Script script = new Script("DAY: BAD").told("c0;c0;c0;s0 1 1;g0 0 1 0 1 0;g0 0 1 0 2 0;g0 0 0 0 0 0;")
            .due("wishes 0 1 5 = 1");
        String[] bad = {"-1 0 9 0", "3 0 9 0", "4 0 9 0", "0 -1 9 0", "0 3 9 0", "0 0 -1 0", "0 0 100 0", "0 0 9 -1", "0 0 9 2", "0 7 9 0",
            MAX + " 0 9 0", "0 " + MIN + " 9 0", "0 0 " + MAX + " 0", "0 0 " + MIN + " 1", "0 0 9 " + MAX, "0 0 100 1", "0 0 -1 1"};
        for (String call : bad) script.due("day " + call + " = BAD");
        script.due("day 0 0 0 * = 0 0", "day 0 0 99 * = 5 1");
        new Script("BAD, if it is not HIS").told("c0;c0;c0;s0 1 1;g0 0 1 0 1 0;g0 0 1 0 6 0;g0 0 0 0 0 0;")
            .due("wishes 0 1 5 = 1")
            .due("day 0 0 9 0 = 5", "day 0 1 9 0 = BAD", "day 0 2 9 0 = BAD", "day 1 0 9 0 = BAD", "day 1 1 9 0 = 5")
            .due("day 1 2 9 0 = 0", "day 2 0 9 0 = BAD");
    }

    private static void dayInTime() {
        new Script("in n (0 .. 99) MINUTES").told("c0;c0;c0;s0 1 9;s1 2 7;g2 0 3 0 7 0;").due("wishes 0 1 5 = 1")
            .due("day 0 0 10 * = 0 0", "day 0 0 11 * = 5 1", "day 0 2 19 * = 0 0", "day 0 1 21 * = 0 0")
            .due("day 0 1 22 * = 5 1", "day 0 2 30 * = 0 0", "day 0 2 31 * = 5 1");
        String chain = "c0;c0;c0;c0;c0;c0;c0;s0 1 9;s1 2 9;s2 3 9;s3 4 9;s4 5 9;s5 6 9;";
        new Script("99 MINUTES are enough for 99").told(chain + "g2 0 31 1 31 3;")
            .due("wishes 0 6 9 = 1", "wishes 6 3 8 = 2", "day 0 0 98 * = 9 1", "day 0 0 99 * = 17 3", "now 1 = 0");
        new Script("99 MINUTES are not enough for 100").told(chain + "g1 0 31 1 31 3;")
            .due("wishes 0 5 9 = 1", "wishes 5 0 8 = 2", "day 0 0 99 * = 9 1", "day 0 0 50 * = 9 1", "day 0 0 49 * = 0 0");
        new Script("He does some of them").told("c0;c0;s0 1 9;s0 1 8;g5 0 1 0 1 0;g5 0 2 0 1 0;")
            .due("wishes 0 1 1 = 1", "wishes 0 1 1 = 2", "wishes 0 1 1 = 3", "wishes 0 1 1 = 4", "day 0 0 97 * = 3 7")
            .due("day 0 0 98 * = 4 15")
            .due("day 1 0 90 * = 3 7", "day 1 0 91 * = 4 15");
    }

    private static void dayOfSeveral() {
        new Script("the set (bits, of several the least)").told("c0;c0;c0;s0 1 2;s0 2 2;g0 0 3 0 1 0;")
            .due("wishes 0 1 5 = 1", "wishes 0 2 5 = 2", "day 0 0 2 * = 5 1")
            .due("wishes 0 2 10 = 3", "day 0 0 2 * = 10 4", "day 0 0 6 * = 15 5", "grants = 3", "wishes 0 1 3 = 1")
            .due("wishes 1 0 3 = 2", "wishes 0 2 6 = 3")
            .due("day 0 0 4 * = 6 3", "day 0 0 2 * = 6 4");
        new Script("what is worth 0 is in no least set").told("c0;c0;s0 1 2;g0 0 1 0 1 0;")
            .due("wishes 0 1 0 = 1", "day 0 0 99 * = 0 0", "wishes 0 1 4 = 2")
            .due("day 0 0 99 * = 4 2", "wishes 1 0 0 = 3", "day 0 0 99 * = 4 2");
        new Script("the most there can be").told("c0;c0;s0 1 1;g0 0 1 0 1 0;")
            .due("wishes 0 1 99 = 1", "wishes 1 0 99 = 2", "wishes 0 1 99 = 3", "wishes 1 0 99 = 4")
            .due("day 0 0 4 * = 396 15", "day 0 0 3 * = 297 7", "day 0 0 2 * = 198 3", "day 0 0 1 * = 99 1")
            .due("day 0 0 0 * = 0 0");
        new Script("no WISHES").told("c0;g0 0 0 0 1 0;").due("day 0 0 0 * = 0 0", "day 0 0 99 * = 0 0");
    }

    private static void dayByTheShortestWay() {
        new Script("PACE counts for each STREET")
            .told("c0;c0;c0;s0 1 2;s1 2 2;s0 2 5;g0 0 7 0 1 0;g1 0 7 0 1 0;g2 0 7 0 1 0;").due("wishes 0 2 5 = 1")
            .due("day 0 0 3 0 = 0", "day 0 0 4 0 = 5", "day 1 0 5 0 = 0", "day 1 0 6 0 = 5", "day 2 0 6 0 = 0")
            .due("day 2 0 7 0 = 5");
        new Script("by STREETS that he KNOWS").told("c0;c0;c0;s0 1 1;s0 1 5;s1 2 1;g0 0 6 0 1 0;g0 0 2 0 1 0;")
            .due("wishes 0 1 5 = 1", "wishes 2 1 3 = 2")
            .due("day 0 0 4 * = 0 0", "day 0 0 5 * = 5 1", "day 0 0 6 * = 5 1", "day 0 0 7 * = 8 3", "day 1 0 99 * = 5 1")
            .due("wishes 0 2 9 = 3", "day 1 0 99 * = 5 1");
    }

    private static void dayOverEachCorner() {
        for (int hub = 0; hub < 7; hub++) {
            StringBuilder town = new StringBuilder("c0;c0;c0;c0;c0;c0;c0;");
            for (int c = 0; c < 7; c++) if (c != hub) town.append("s").append(hub).append(' ').append(c).append(" 1;");
            int from = (hub + 1) % 7;
            int to = (hub + 6) % 7;
            new Script("by the shortest way, over each CORNER").told(town + "g0 0 31 15 31 3;")
                .due("wishes " + from + " " + to + " 5 = 1")
                .due("day 0 " + from + " 1 * = 0 0", "day 0 " + from + " 2 * = 5 1", "day 0 " + to + " 3 * = 0 0")
                .due("day 0 " + to + " 4 * = 5 1");
        }
    }

    private static void dayOfAllRows() {
        new Script("one behind another, of all rows").told("c0;c0;c0;c0;s0 1 1;s1 2 1;s2 3 1;s3 0 9;g0 0 7 0 1 0;")
            .due("wishes 2 3 4 = 1", "wishes 0 1 3 = 2", "wishes 1 2 2 = 3", "wishes 3 0 9 = 4", "day 0 0 3 * = 9 7")
            .due("day 0 0 2 * = 5 6", "day 0 0 5 * = 9 7")
            .due("day 0 0 6 * = 18 15", "day 0 0 1 * = 3 2");
        new Script("a WISH may be told twice, and is done for each").told("c0;c0;s0 1 3;g0 0 1 0 1 0;")
            .due("wishes 0 1 5 = 1", "wishes 0 1 5 = 2")
            .due("day 0 0 8 * = 5 1", "day 0 0 9 * = 10 3");
    }

    private static void rateRefused() {
        new Script("RATE. NO: BAD").told("c0;g0 1 0 0 1 0;g0 2 0 0 1 0;")
            .due("rate -1 0 = NO", "rate 6 0 = NO", "rate 0 -1 = NO", "rate 0 2 = NO", "rate 5 4 = NO")
            .due("rate " + MAX + " 0 = NO", "rate " + MIN + " 0 = NO", "rate 0 " + MAX + " = NO", "rate 0 " + MIN + " = NO")
            .due("trace = 0", "rate * 1 = 2 2 2 4 3 2 NO");
    }

    private static void rates() {
        new Script("KINDS of GUIDES are over one another")
            .told("c0;c0;c0;c0;s0 1 1;s1 2 1;s2 3 1;g4 7 7 0 15 0;g0 0 5 0 0 0;").due("waits 30 = 30")
            .due("rate * 0 = 7 11 4 22 8 37", "rate * 1 = 0 0 -2 0 -2 30", "waits 1 = 31", "rate 5 0 = 38", "undo = 1")
            .due("rate 5 0 = 37");
    }

    private static void rateAtItsEnds() {
        String all = "c0;c0;c0;c0;c0;c0;c0;s0 1 1;s0 1 1;s0 1 1;s0 1 1;s0 1 1;s0 1 1;s0 1 1;s0 1 1;s0 1 1;";
        new Script("the least and the most a RATE can be").told(all + "g0 0 31 15 0 0;g5 9 0 0 31 3;g5 9 31 15 31 3;")
            .due("rate * 0 = 0 0 -9 0 -9 0", "rate * 1 = 9 14 9 28 16 9", "rate * 2 = 9 14 0 28 7 9").waitedTo(9999)
            .due("rate 5 1 = 10008", "rate 5 0 = 9999");
    }

    private static void counts() {
        new Script("count: BAD").due("count -1 = BAD", "count 10 = BAD", "count " + MAX + " = BAD")
            .due("count " + MIN + " = BAD");
        new Script("how many there are of each").told(ROW + "g0 0 0 0 0 0;g0 0 0 0 0 0;g0 0 0 0 0 0;f1 0 1 1 0 1;h7;")
            .typed("c0;c0;c0;c")
            .due("feels 1 = 1", "feels 1 = 2", "went 1 = 1", "wishes 0 1 1 = 1", "wishes 0 1 1 = 2", "wishes 0 1 1 = 3")
            .due("waits 1 = 1", "waits 1 = 2")
            .due("waits 1 = 3", "waits 1 = 4", "waits 1 = 5", "waits 1 = 6", "waits 1 = 7", "waits 1 = 8")
            .due("count * = 5 4 3 7 6 2 1 3 8 10 BAD");
    }

    private static void traces() {
        int[] comes = {1, 11, 101, 1011, 10101, 100001};
        for (int kind = 0; kind < 6; kind++) {
            Script script = new Script("come to THE TRACE as often as rate() asks that body").told("c0;g0 0 0 0 0 0;");
            for (int i = 1; i <= 3; i++) script.due("rate " + kind + " 0 = 0", "trace = " + i * comes[kind]);
            script.due("rate 6 0 = NO", "rate -1 0 = NO", "rate " + kind + " 1 = NO", "trace = " + 3 * comes[kind]);
        }
        Script many = new Script("THE TRACE").told("c0;g0 0 0 0 1 0;");
        for (int i = 0; i < 480; i++) many.due("rate 5 0 = 0");
        many.due("trace = 48000480");
    }

    private static void traceStays() {
        new Script("THE TRACE is no part of NOW").told("c0;g0 3 0 0 1 0;")
            .due("keep 0 = 0", "hires 0 = 0", "rate 1 0 = 3", "undo = 0", "trace = 11", "back 0 = 0")
            .due("trace = 11", "forget = 0", "grants = 0", "clear = 0", "trace = 11", "trace = 11").fault("c", 1)
            .due("trace = 11").told("g0 5 0 0 0 0;")
            .due("trace = 11", "rate 0 0 = 5", "trace = 12");
    }
}
