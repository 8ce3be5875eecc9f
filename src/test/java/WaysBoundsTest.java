/** Promises 16 to 21: ways with guides, alone by bells, and what is taught, at the boundaries that the document names. */
public final class WaysBoundsTest {
    private static final String CHAIN = "c0;c0;c0;c0;c0;c0;c0;s0 1 9;s1 2 9;s2 3 9;s3 4 9;s4 5 9;s5 6 9;";
    private static final String[] ROUTES = {"soonest", "cheapest"};

    public static void main(String[] args) {
        for (String call : ROUTES) {
            routesRefused(call);
            routesToItself(call);
            routesThereAreNot(call);
            routesChangeNothing(call);
            routesHandedOver(call);
            routesAtTheirLongest(call);
            routesInTheFullestTown(call);
        }
        soonestOfAsMany();
        cheapestOfAsMuch();
        byOne();
        forFee();
        forFeeWithoutACornerTwice();
        forFeeOfNothing();
        byBellsRefused();
        byBellsToItself();
        byBellsThereIsNone();
        byBellsInTime();
        byBellsComeRound();
        byBellsAtTheirMost();
        taughtRefused();
        taughtToMost();
        taughtWithoutCorners();
        Script.end();
    }

    private static void routesRefused(String call) {
        new Script(call + ": BAD").told("c0;c0;s0 1 1;g0 1 1 0 3 0;")
            .due(call + " -1 0 0 = BAD", call + " 0 -1 0 = BAD", call + " 2 0 0 = BAD", call + " 0 2 0 = BAD")
            .due(call + " 0 1 -1 = BAD", call + " 0 1 3 = BAD", call + " 0 0 -1 = BAD", call + " 0 0 3 = BAD")
            .due(call + " 2 2 0 = BAD", call + " -1 -1 2 = BAD", call + " 7 7 0 = BAD", call + " 2147483647 0 0 = BAD")
            .due(call + " 0 -2147483648 0 = BAD", call + " 0 1 2147483647 = BAD", call + " 0 1 * = 1 1 0");
        new Script(call + ": BAD").told("c0;c0;").due(call + " 0 1 * = NONE NONE NONE BAD", call + " 0 1 -1 = BAD");
    }

    private static void routesToItself(String call) {
        new Script("nobody is needed from a CORNER to itself (0, 0, no GUIDE)").told("c0;").due(call + " 0 0 * = 0 0 NONE")
            .told(CHAIN + "g5 9 31 15 1 0;").due(call + " 0 0 * = 0 0 NONE", call + " 6 6 * = 0 0 NONE");
    }

    private static void routesThereAreNot(String call) {
        new Script(call + " NONE: it is nobody's CORNER").told("c0;c0;s0 1 1;g0 0 1 0 2 0;")
            .due(call + " 0 1 * = NONE NONE NONE", call + " 1 0 * = 1 0 0");
        new Script(call + " NONE: he does not KNOW the STREET").told("c0;c0;s0 1 1;s0 1 1;g0 0 0 15 3 0;")
            .due(call + " 0 1 * = NONE NONE NONE");
        new Script(call + " NONE: no STREET leads there").told("c0;c0;c0;s0 1 1;g0 0 31 15 31 3;")
            .due(call + " 0 2 * = NONE NONE NONE", call + " 2 0 * = NONE NONE NONE", call + " 0 1 * = 1 0 0");
        new Script(call + " NONE: the CORNER is not both's").told("c0;c0;c0;s0 1 1;s1 2 1;g0 0 1 0 1 0;g0 0 2 0 2 0;")
            .due(call + " 0 2 * = NONE NONE NONE", call + " 1 2 * = 1 0 1", call + " 0 1 * = 1 0 0");
        new Script(call + " NONE: there are no GUIDES").told("c0;c0;s0 1 1;f0;").due(call + " 0 1 * = NONE NONE NONE");
    }

    private static void routesChangeNothing(String call) {
        String town = "c0;c0;c0;s0 1 2;s1 2 3;g0 1 1 0 3 0;g0 2 3 0 4 0;f1;";
        new Script("From the CORNER told on, with nobody; nothing is changed").told(town).due("hires 0 = 0", "leads 0 = 1")
            .due(call + " 2 0 * = 5 10 1", call + " 0 1 * = 2 2 0", call + " 1 2 * = NONE NONE NONE")
            .due("now * = 1 2 2 0 1 0", "count 8 = 2", "trace = 0");
        new Script("From the CORNER told on, in no MINUTE told").told(town).waitedTo(9999).due(call + " 2 0 * = 5 10 1");
    }

    private static void routesHandedOver(String call) {
        String two = "c0;c0;c0;s0 1 2;s1 2 3;g0 1 1 0 3 0;g1 1 2 0 2 0;";
        for (int hand = 0; hand <= 9; hand++) {
            new Script("then LED, handed over").told(two + "h" + hand + ";")
                .due(call + " 0 2 * = " + (6 + hand) + " 6 0", call + " 1 2 * = 4 4 " + (hand == 0 ? 0 : 1));
        }
        new Script("a CORNER may be come to twice").told("c0;c0;c0;s0 1 1;s0 2 1;g0 1 1 0 3 0;g0 2 3 0 2 0;")
            .due(call + " 0 2 * = 4 5 0", call + " 2 0 * = NONE NONE NONE");
        new Script("both ways").told("c0;c0;s1 0 4;g0 1 1 0 3 0;").due(call + " 0 1 * = 4 4 0", call + " 1 0 * = 4 4 0");
    }

    private static void routesAtTheirLongest(String call) {
        new Script(call + " at its longest").told(CHAIN + "g5 9 21 0 31 3;g5 9 10 1 31 3;h9;")
            .due(call + " 0 6 * = 129 756 0", call + " 6 0 * = 129 756 1", call + " 0 5 * = 106 630 0");
        new Script(call + " of four handed over").told(CHAIN + "g0 1 1 0 3 0;g0 1 2 0 7 0;g0 1 4 0 15 0;g0 1 24 1 9 0;h2;")
            .due(call + " 0 6 * = 60 54 0", call + " 1 6 * = 49 45 1", call + " 3 6 * = 27 27 3");
    }

    /** Seven CORNERS, nine STREETS, four GUIDES: each way from, to and over the last of them. */
    private static void routesInTheFullestTown(String call) {
        String streets = "s0 1 1;s1 2 1;s2 3 1;s3 4 1;s4 5 1;s5 6 1;s0 1 2;s0 1 3;s6 0 9;";
        new Script(call + " where there are most of all")
            .told("c0;c0;c0;c0;c0;c0;c0;" + streets + "g0 0 0 0 0 0;g0 0 0 0 0 0;g0 0 0 0 0 0;g0 2 0 8 0 2;f0;")
            .due(call + " 6 0 * = 9 18 3", call + " 0 6 * = NONE NONE NONE", call + " 6 5 * = NONE NONE NONE")
            .due(call + " 6 6 * = 0 0 NONE")
            .due("byOne 6 0 = 8", "byOne 6 5 = 0", "forFee 6 0 18 = 8", "forFee 6 0 17 = 0", "taught 3 * = 0 3")
            .due("byBells 6 0 0 = 6", "byBells 5 0 6 = 1")
            .due("byBells 6 0 1 = 5", "hires 3 = STATE", "alone 8 = 6", "hires 3 = 9", "now * = 6 9 0 3 256 0")
            .due("leads 8 = 0", "day 3 6 9 0 = 0")
            .due("wishes 6 0 7 = 1", "day 3 6 8 * = 0 0", "day 3 6 9 * = 7 1", "rate 2 3 = 1", "rate 4 3 = 2", "fits 0 = 0")
            .due("feels 0 = 1", "fits * = 7 127 127 1");
    }

    private static void soonestOfAsMany() {
        new Script("the fewest MINUTES, of as many the least PAID")
            .told("c0;c0;s0 1 3;s0 1 4;g0 3 1 0 1 0;g0 2 1 0 1 0;g0 0 2 0 1 0;")
            .due("soonest 0 1 * = 3 6 1", "cheapest 0 1 * = 4 0 2");
        new Script("the first GUIDE, of several the least").told("c0;c0;s0 1 3;g1 0 1 0 1 0;g0 2 1 0 1 0;g0 2 1 0 1 0;")
            .due("soonest 0 1 * = 3 6 1");
        new Script("of as many the least PAID, by another way")
            .told("c0;c0;c0;s0 2 4;s0 1 2;s1 2 2;g0 3 1 0 1 0;g0 2 6 0 1 0;")
            .due("soonest 0 2 * = 4 8 1");
        new Script("handed over in just as many MINUTES for less")
            .told("c0;c0;c0;s0 1 2;s1 2 5;g0 3 3 0 3 0;g0 1 2 0 2 0;h0;")
            .due("soonest 0 2 * = 7 11 0").told("c0;c0;c0;s0 1 2;s1 2 5;g0 3 3 0 3 0;g0 1 2 0 2 0;h1;")
            .due("soonest 0 2 * = 7 21 0", "cheapest 0 2 * = 8 11 0");
    }

    private static void cheapestOfAsMuch() {
        new Script("the least PAID, of as much the fewest MINUTES")
            .told("c0;c0;s0 1 2;s0 1 4;g0 2 1 0 1 0;g0 1 2 0 1 0;g0 4 1 0 1 0;")
            .due("cheapest 0 1 * = 2 4 0").told("c0;c0;s0 1 2;s0 1 4;g0 1 2 0 1 0;g0 2 1 0 1 0;g0 2 1 0 1 0;")
            .due("cheapest 0 1 * = 2 4 1", "soonest 0 1 * = 2 4 1");
        new Script("the least PAID of nothing").told("c0;c0;s0 1 9;s0 1 8;g5 0 1 0 1 0;g5 0 3 0 1 0;g4 1 3 0 1 0;")
            .due("cheapest 0 1 * = 13 0 1", "soonest 0 1 * = 12 12 2");
        new Script("the first GUIDE, of several the least").told("c0;c0;s0 1 3;g0 3 1 0 1 0;g0 2 1 0 1 0;g0 2 1 0 1 0;")
            .due("cheapest 0 1 * = 3 6 1");
        new Script("handed over for as much, later").told("c0;c0;c0;s0 1 2;s1 2 5;g0 1 3 0 3 0;g0 1 3 0 3 0;h1;")
            .due("cheapest 0 2 * = 7 7 0", "soonest 0 2 * = 7 7 0");
        new Script("the first GUIDE may hand over at once, in no MINUTES").told("c0;c0;s0 1 3;g0 0 0 0 1 0;g0 2 1 0 1 0;h0;")
            .due("cheapest 0 1 * = 3 6 0", "soonest 0 1 * = 3 6 0").told("c0;c0;s0 1 3;g0 0 0 0 1 0;g0 2 1 0 1 0;h1;")
            .due("cheapest 0 1 * = 3 6 1", "soonest 0 1 * = 3 6 1");
    }

    private static void byOne() {
        new Script("BY ONE, as bits. BAD").told("c0;c0;s0 1 1;g0 0 1 0 1 0;")
            .due("byOne -1 0 = BAD", "byOne 0 -1 = BAD", "byOne 2 0 = BAD", "byOne 0 2 = BAD", "byOne 2 2 = BAD")
            .due("byOne 2147483647 0 = BAD", "byOne 0 -2147483648 = BAD", "byOne 0 1 = 1", "byOne 1 0 = 0");
        new Script("GUIDES (bits) who can lead all the way from a CORNER that is HIS to another one")
            .told(CHAIN + "g0 0 31 1 1 0;g0 0 30 1 1 0;g0 0 31 0 31 3;g0 0 31 1 0 2;")
            .due("byOne 0 6 = 1", "byOne 0 5 = 5", "byOne 0 1 = 5", "byOne 6 0 = 8", "byOne 6 5 = 8", "byOne 5 0 = 4")
            .due("byOne 5 6 = 0");
        new Script("by one, not handed over").told("c0;c0;c0;s0 1 1;s1 2 1;g0 0 1 0 7 0;g0 0 2 0 7 0;")
            .due("byOne 0 1 = 1", "byOne 1 2 = 2", "byOne 0 2 = 0", "byOne 2 0 = 0", "soonest 0 2 0 = 3");
        new Script("all four of them, or nobody").told("c0;c0;s0 1 1;g0 0 1 0 1 0;g0 0 1 0 1 0;g0 0 1 0 1 0;g0 0 1 0 1 0;")
            .due("byOne 0 1 = 15", "byOne 1 0 = 0").told("c0;c0;s0 1 1;").due("byOne 0 1 = 0", "byOne 0 0 = 0");
        new Script("from a CORNER to itself: those whose CORNER it is").told("c0;c0;g0 0 0 0 1 0;g0 0 0 0 2 0;g0 0 0 0 3 0;")
            .due("byOne 0 0 = 5", "byOne 1 1 = 6");
    }

    private static void forFee() {
        new Script("FOR a fee (0 .. 999), as bits. BAD").told("c0;c0;s0 1 1;g0 0 1 0 1 0;")
            .due("forFee 0 1 -1 = BAD", "forFee 0 1 1000 = BAD", "forFee 0 1 0 = 1", "forFee 0 1 999 = 0")
            .due("forFee -1 0 0 = BAD", "forFee 0 -1 0 = BAD", "forFee 2 0 0 = BAD", "forFee 0 2 0 = BAD")
            .due("forFee 0 0 -1 = BAD")
            .due("forFee 0 0 1000 = BAD", "forFee 0 1 2147483647 = BAD", "forFee 0 1 -2147483648 = BAD")
            .due("forFee 2147483647 1 0 = BAD", "forFee 0 -2147483648 0 = BAD");
        new Script("for just so much").told("c0;c0;s0 1 3;g2 4 1 0 1 0;g0 0 1 0 1 0;g1 5 1 0 1 0;g2 4 1 0 2 0;")
            .due("forFee 0 1 19 = 0", "forFee 0 1 20 = 5", "forFee 0 1 21 = 0", "forFee 0 1 0 = 2", "forFee 0 1 1 = 0")
            .due("forFee 1 0 20 = 8");
        new Script("the dearest way there can be").told(CHAIN + "g5 9 31 1 1 0;g5 9 31 1 1 0;g5 9 31 0 1 0;g5 8 31 1 1 0;")
            .due("forFee 0 6 755 = 0", "forFee 0 6 756 = 3", "forFee 0 6 757 = 0", "forFee 0 6 672 = 8")
            .due("forFee 0 5 630 = 7");
    }

    private static void forFeeWithoutACornerTwice() {
        new Script("by some way without a CORNER twice").told("c0;c0;c0;s0 1 1;s0 1 3;s1 2 1;s0 2 9;g0 1 15 0 1 0;")
            .due("forFee 0 2 2 = 1", "forFee 0 2 4 = 1", "forFee 0 2 9 = 1", "forFee 0 2 3 = 0", "forFee 0 2 6 = 0")
            .due("forFee 0 2 8 = 0")
            .due("forFee 0 1 1 = 1", "forFee 0 1 3 = 1", "forFee 0 1 10 = 1", "forFee 0 1 5 = 0", "forFee 0 1 7 = 0")
            .due("forFee 0 1 2 = 0");
        new Script("the goal ends the way").told("c0;c0;c0;s0 1 1;s1 2 1;g0 1 3 0 1 0;")
            .due("forFee 0 1 1 = 1", "forFee 0 1 3 = 0");
        new Script("PACE counts for each STREET").told("c0;c0;c0;s0 1 1;s1 2 1;s0 2 2;g1 1 7 0 1 0;")
            .due("forFee 0 2 4 = 1", "forFee 0 2 3 = 1", "forFee 0 2 2 = 0", "forFee 0 2 5 = 0");
    }

    private static void forFeeOfNothing() {
        new Script("from a CORNER to itself: 0 by those whose CORNER it is")
            .told("c0;c0;s0 1 1;g0 1 1 0 1 0;g0 0 1 0 3 0;g0 1 1 0 2 0;")
            .due("forFee 0 0 0 = 3", "forFee 1 1 0 = 6", "forFee 0 0 1 = 0", "forFee 0 0 2 = 0");
        new Script("for nothing there is a way, too").told("c0;c0;c0;s0 1 9;g5 0 1 0 1 0;")
            .due("forFee 0 1 0 = 1", "forFee 0 2 0 = 0");
    }

    private static void byBellsRefused() {
        new Script("BY BELLS from a CORNER in a MINUTE (0 .. 9999). BAD").told("c0;c0;s0 1 1;f0;")
            .due("byBells 0 -1 1 = BAD", "byBells 0 10000 1 = BAD", "byBells 0 0 1 = 1", "byBells 0 9999 1 = 1")
            .due("byBells -1 0 1 = BAD", "byBells 2 0 1 = BAD", "byBells 0 0 -1 = BAD", "byBells 0 0 2 = BAD")
            .due("byBells 0 10000 0 = BAD")
            .due("byBells 0 -1 0 = BAD", "byBells 2 0 2 = BAD", "byBells 2147483647 0 0 = BAD")
            .due("byBells 0 2147483647 0 = BAD")
            .due("byBells 0 -2147483648 1 = BAD", "byBells 0 0 -2147483648 = BAD");
    }

    private static void byBellsToItself() {
        new Script("the fewest MINUTES behind which one can be there").told("c0;c0;s0 1 1;f1;")
            .due("byBells 0 0 0 = 0", "byBells 1 9999 1 = 0")
            .told("c0;").due("byBells 0 5 0 = 0");
    }

    private static void byBellsThereIsNone() {
        new Script("BY BELLS; NONE").told("c0;c0;c0;s0 1 1;f1;").due("byBells 0 0 1 = NONE", "byBells 0 0 2 = NONE")
            .told("c0;c0;c0;s0 1 1;").due("byBells 0 0 1 = NONE").told("c0;c0;c0;s0 1 1;f0;")
            .due("byBells 0 0 1 = 1", "byBells 0 0 2 = NONE")
            .due("byBells 2 0 0 = NONE", "byBells 1 0 0 = 1");
    }

    private static void byBellsInTime() {
        new Script("ALONE, waiting as one likes").told("c0;c0;s0 1 9;s0 1 9;g0 0 3 0 3 0;f0 1;")
            .due("byBells 0 0 1 = 9", "byBells 0 1 1 = 9", "byBells 0 2 1 = 27", "byBells 0 9 1 = 20", "byBells 0 10 1 = 19")
            .due("byBells 0 19 1 = 10", "byBells 0 20 1 = 9", "hires 0 = 0", "waits 50 = 50", "byBells 0 2 1 = 27")
            .due("now 1 = 50");
        new Script("sooner by a shorter STREET behind a while").told("c0;c0;c0;s0 1 9;s0 2 2;s2 1 2;f0 1;")
            .due("byBells 0 0 1 = 4", "byBells 0 6 1 = 4", "byBells 0 7 1 = 15", "byBells 0 8 1 = 14", "byBells 0 9 1 = 15");
        new Script("bells in MINUTES above 9999").told("c0;c0;s0 1 9;f0 1;")
            .due("byBells 0 9999 1 = 10", "byBells 0 9991 1 = 18", "byBells 0 9982 1 = 27");
    }

    private static void byBellsComeRound() {
        new Script("the fog's bits that come round").told("c0;c0;s0 1 9;f0 1 0;")
            .due("byBells 0 0 1 = 9", "byBells 0 2 1 = 27")
            .due("byBells 0 25 1 = 9", "byBells 0 31 1 = 9", "byBells 0 32 1 = 27", "byBells 0 20 1 = 9");
        for (int bits = 1; bits <= 8; bits++) {
            new Script("the fog's bits that come round").told("c0;c0;s0 1 9;f0" + " 1".repeat(bits - 1) + ";")
                .due("byBells 0 1 1 = 9", "byBells 0 2 1 = " + (bits == 1 ? 9 : bits * 10 + 7))
                .due("byBells 0 " + bits * 10 + " 1 = 9");
        }
    }

    /** 487 is the most that can come about: six STREETS, one in each round of 80 MINUTES, the first one just missed. */
    private static void byBellsAtTheirMost() {
        new Script("500 at most").told(CHAIN + "f0 1 1 1 1 1 1 1;").due("byBells 0 0 6 = 409", "byBells 0 1 6 = 408")
            .due("byBells 0 2 6 = 487")
            .due("byBells 0 9 6 = 480", "byBells 0 10 6 = 479", "byBells 6 2 0 = 487", "byBells 0 2 5 = 407")
            .due("byBells 1 2 6 = 407")
            .due("byBells 0 9922 6 = 487", "byBells 0 9999 6 = 410");
    }

    private static void taughtRefused() {
        new Script("TAUGHT: BAD").told("c0;c0;s0 1 1;g0 0 0 0 1 0;").due("taught -1 0 = BAD", "taught 1 0 = BAD")
            .due("taught 0 -1 = BAD")
            .due("taught 0 2 = BAD", "taught 4 0 = BAD", "taught 2147483647 1 = BAD", "taught 0 -2147483648 = BAD")
            .due("taught 0 * = 0 2")
            .due("guide 0 2 = 0");
        new Script("NONE: he KNOWS all").told("c0;c0;s0 1 1;s1 0 1;g0 0 3 0 1 0;g0 0 31 15 0 0;g0 0 1 0 1 0;g0 0 2 0 0 0;")
            .due("taught 0 * = NONE NONE BAD", "taught 1 * = NONE NONE BAD", "taught 2 * = 1 2", "taught 3 * = 0 0");
        new Script("NONE: there are no STREETS").told("c0;g0 0 0 0 1 0;").due("taught 0 * = NONE NONE", "taught 0 2 = BAD");
    }

    private static void taughtToMost() {
        new Script("from HIS CORNERS to most CORNERS, of several the least")
            .told("c0;c0;c0;c0;c0;s0 1 1;s2 3 1;s0 2 1;s0 3 1;s3 4 1;g0 0 2 0 1 0;")
            .due("taught 0 * = 2 3").told("c0;c0;c0;c0;c0;s0 1 1;s2 3 1;s0 2 1;s0 3 1;s3 4 1;g0 0 18 0 1 0;")
            .due("taught 0 * = 2 4")
            .told("c0;c0;c0;c0;s0 1 1;s0 1 1;s0 2 1;g0 0 1 0 1 0;").due("taught 0 * = 2 3")
            .told("c0;c0;s0 1 1;s0 1 1;s0 1 1;g0 0 2 0 3 0;")
            .due("taught 0 * = 0 2");
        new Script("each that can be reached from some CORNER that is HIS")
            .told("c0;c0;c0;c0;c0;s0 1 1;s2 3 1;s3 4 1;g0 0 2 0 9 0;")
            .due("taught 0 * = 0 4").told("c0;c0;c0;c0;c0;s0 1 1;s2 3 1;s3 4 1;g0 0 4 0 13 0;").due("taught 0 * = 0 5");
        new Script("to all of them by the last")
            .told(CHAIN + "s0 6 1;s0 5 1;s6 0 1;g0 0 31 0 1 0;g0 0 31 13 1 0;g0 0 31 15 1 0;")
            .due("taught 0 * = 5 7", "taught 1 * = 6 7", "taught 2 * = NONE NONE");
        new Script("the last STREET teaches most").told(CHAIN + "s0 1 1;s0 1 1;s0 2 1;g0 0 29 1 1 0;")
            .due("taught 0 * = 1 7")
            .told("c0;c0;c0;c0;s0 1 1;s0 1 1;s0 1 1;s0 1 1;s0 1 1;s0 1 1;s0 1 1;s0 1 1;s0 2 1;g0 0 1 0 1 0;")
            .due("taught 0 * = 8 3");
    }

    private static void taughtWithoutCorners() {
        new Script("a GUIDE with no CORNERS leads to none").told("c0;c0;s0 1 1;s0 1 1;g0 0 1 0 0 0;")
            .due("taught 0 * = 1 0");
        new Script("a STREET that leads him nowhere").told("c0;c0;c0;s1 2 1;g0 0 0 0 1 0;").due("taught 0 * = 0 1");
    }
}
