/** Promises 9 to 15, 31 and 32: what is done, undone and kept, just within and just beyond what the document allows. */
public final class DoneBoundsTest {
    // Guide 0 has corners 0 and 1 and knows street 0; guide 1 has corners 1 and 2 and knows street 1; guide 2 has corner 0.
    private static final String TOWN =
        "c0;c1;c2;s0 1 4;s1 2 3;g1 2 1 0 3 0;g0 3 2 0 6 0;g0 0 3 0 1 0;f0 1;h2;";

    public static void main(String[] args) {
        begins();
        hired();
        handedOver();
        hiredLate();
        left();
        led();
        ledLate();
        ledBothWays();
        paid();
        alone();
        aloneInTheFog();
        aloneLate();
        waited();
        undone();
        allCalls();
        undoneOfEachKind();
        lostWhenMoreThanTen();
        refusedIsNotUndone();
        nowWithGuides();
        nowAlone();
        nowLate();
        images();
        imagesKeepNowAlone();
        imagesAndUndone();
        Script.end();
    }

    private static void begins() {
        new Script("One is at CORNER 0 (if there are CORNERS), in MINUTE 0, with nobody, has PAID 0").told(TOWN)
            .due("now * = 0 0 0 NONE 1 5");
        new Script("the CORNER (NONE: there are none)").told("g0 0 31 15 31 3;").due("now * = NONE 0 0 NONE 0 0")
            .told("c0;").due("now 0 = 0");
        new Script("now: BAD").told(TOWN).due("now -1 = BAD", "now 6 = BAD", "now 2147483647 = BAD")
            .due("now -2147483648 = BAD");
    }

    private static void hired() {
        new Script("HIRED: the MINUTE. BAD").told(TOWN).due("hires -1 = BAD", "hires 3 = BAD", "hires 4 = BAD")
            .due("hires 2147483647 = BAD", "hires -2147483648 = BAD", "now 3 = NONE", "count 8 = 0");
        new Script("at a CORNER that is HIS, if one is with nobody").told(TOWN).due("hires 1 = STATE", "hires 2 = 0")
            .due("now * = 0 0 0 2 1 1");
        new Script("STATE: there are no CORNERS").told("g0 0 31 15 31 3;g0 0 0 0 0 0;").due("hires 0 = STATE")
            .due("hires 1 = STATE", "hires 2 = BAD", "now 5 = 0", "count 8 = 0");
        new Script("he leads already").told(TOWN).due("hires 0 = 0", "hires 0 = STATE", "leads 0 = 1", "hires 0 = STATE")
            .due("now 1 = 5", "count 8 = 2");
        new Script("HIRED with nobody is in no time").told(TOWN).due("waits 7 = 7", "hires 0 = 7", "leaves = 0")
            .due("hires 2 = 7");
    }

    private static void handedOver() {
        new Script("else at one that is HIS and the other one's, too, in HAND MINUTES").told(TOWN)
            .due("hires 2 = 0", "hires 1 = STATE", "hires 0 = 2", "leads 0 = 1", "hires 2 = STATE", "hires 1 = 9")
            .due("now * = 1 9 10 1 2 1", "leads 1 = 2", "hires 0 = STATE", "hires 2 = STATE", "now 5 = 0");
        new Script("it is not HIS, or not both's").told("c0;c0;s0 1 1;g0 0 1 0 1 0;g0 0 1 0 2 0;g0 0 1 0 3 0;")
            .due("hires 0 = 0", "hires 1 = STATE", "leads 0 = 1", "hires 1 = STATE", "hires 2 = STATE", "now 5 = 0")
            .due("leaves = 0", "now 5 = 6", "hires 1 = 1", "now 5 = 4", "hires 2 = 2", "now 5 = 2", "leads 0 = 0")
            .due("hires 1 = STATE", "hires 0 = 4");
        new Script("HAND 0").told("c0;g0 0 0 0 1 0;g0 0 0 0 1 0;h0;").due("hires 1 = 0", "hires 0 = 0")
            .due("now * = 0 0 0 0 0 2");
        new Script("HAND 1 at first").told("c0;g0 0 0 0 1 0;g0 0 0 0 1 0;").due("hires 1 = 0", "hires 0 = 1");
        new Script("HAND 9").told("c0;g0 9 0 0 1 0;g0 9 0 0 1 0;h9;").due("hires 1 = 0", "hires 0 = 9", "now 2 = 0");
    }

    private static void hiredLate() {
        String two = "c0;g0 0 0 0 1 0;g0 0 0 0 1 0;h";
        new Script("STATE: it would be above MINUTE 9999").told(two + "9;").due("hires 0 = 0").waitedTo(9990)
            .due("now 5 = 2", "hires 1 = 9999", "now 5 = 0", "hires 0 = STATE", "leaves = 1", "hires 0 = 9999", "now 3 = 0");
        new Script("STATE: it would be above MINUTE 9999").told(two + "9;").due("hires 0 = 0").waitedTo(9991)
            .due("now 5 = 0", "hires 1 = STATE", "now 3 = 0", "now 1 = 9991");
        new Script("STATE: it would be above MINUTE 9999").told(two + "0;").due("hires 0 = 0").waitedTo(9999)
            .due("now 5 = 2", "hires 1 = 9999", "hires 0 = 9999");
        new Script("STATE: it would be above MINUTE 9999").told(two + "1;").waitedTo(9999)
            .due("now 5 = 3", "hires 1 = 9999", "hires 0 = STATE", "now 5 = 0");
    }

    private static void left() {
        new Script("LEFT: who led. STATE: nobody did").told(TOWN).due("leaves = STATE", "hires 2 = 0", "leaves = 2")
            .due("leaves = STATE", "now * = 0 0 0 NONE 1 5", "count 8 = 2", "hires 0 = 0", "leads 0 = 1", "leaves = 0")
            .due("now 0 = 1", "now 1 = 5", "now 2 = 10", "now 3 = NONE");
        new Script("LEFT: who led. STATE: nobody did").due("leaves = STATE", "count 8 = 0");
        new Script("LEFT at a CORNER that is not HIS").told(TOWN).due("hires 2 = 0", "leads 0 = 1", "leaves = 2")
            .due("now 5 = 3");
        new Script("LEFT in the last MINUTE").told(TOWN).due("hires 2 = 0").waitedTo(9999).due("leaves = 2", "now 3 = NONE");
    }

    private static void led() {
        new Script("LED: the CORNER then. BAD").told(TOWN).due("leads -1 = BAD", "leads 2 = BAD", "leads 9 = BAD")
            .due("leads 2147483647 = BAD", "leads -2147483648 = BAD", "hires 0 = 0", "leads 2 = BAD", "leads -1 = BAD");
        new Script("STATE: nobody leads").told(TOWN).due("leads 0 = STATE", "leads 1 = STATE", "hires 0 = 0", "leaves = 0")
            .due("leads 0 = STATE", "count 8 = 2");
        new Script("the STREET is not there").told(TOWN).due("hires 2 = 0", "leads 1 = STATE", "leads 0 = 1", "leads 1 = 2")
            .due("leads 0 = STATE", "now * = 2 7 0 2 2 0");
        new Script("he does not KNOW it").told(TOWN).due("hires 0 = 0", "leads 0 = 1", "leads 1 = STATE", "now 4 = 1")
            .due("hires 1 = 7", "now 4 = 2", "leads 0 = STATE", "leads 1 = 2");
        new Script("LENGTH and PACE, FEE times that is PAID").told("c0;c0;s0 1 9;s0 1 1;g5 9 1 0 1 0;g0 0 2 0 1 0;")
            .due("hires 0 = 0", "leads 0 = 1", "now * = 1 14 126 0 1 0", "leads 0 = 0", "now * = 0 28 252 0 1 2")
            .due("hires 1 = 29", "leads 1 = 1", "now * = 1 30 252 1 2 0");
    }

    private static void ledLate() {
        String slow = "c0;c0;s0 1 3;g2 9 1 0 3 0;";
        new Script("it would be too late").told(slow).due("hires 0 = 0").waitedTo(9994)
            .due("now 4 = 1", "leads 0 = 1", "now 1 = 9999", "now 2 = 45", "now 4 = 0", "leads 0 = STATE");
        new Script("it would be too late").told(slow).due("hires 0 = 0").waitedTo(9995)
            .due("now 4 = 0", "leads 0 = STATE", "now * = 0 9995 0 0 0 0", "count 8 = 10");
    }

    private static void ledBothWays() {
        new Script("LENGTH (1 .. 9 MINUTES), both ways").told("c0;c0;c0;s1 0 2;s1 2 3;g0 1 3 0 7 0;f0;")
            .due("hires 0 = 0", "leads 0 = 1", "leads 1 = 2", "leads 1 = 1", "leads 0 = 0", "now 1 = 10", "leaves = 0")
            .due("alone 0 = 1", "alone 1 = 2", "alone 1 = 1", "alone 0 = 0", "now 1 = 20");
    }

    /** So much is PAID as 512 calls can pay; 99999 is out of reach, as 9 times 9999 is less. */
    private static void paid() {
        Script script = new Script("PAID 99999 at most").told("c0;c0;s0 1 9;g5 9 1 0 3 0;").due("hires 0 = 0");
        for (int i = 1; i <= 440; i++) script.due("leads 0 = " + i % 2);
        script.due("now * = 0 6160 55440 0 1 0", "undo = 9", "now 2 = 55314", "keep 0 = 6146", "back 0 = 6146")
            .due("now 2 = 55314");
    }

    private static void alone() {
        new Script("ALONE: the CORNER then. BAD").told(TOWN).due("alone -1 = BAD", "alone 2 = BAD", "alone 9 = BAD")
            .due("alone 2147483647 = BAD", "alone -2147483648 = BAD", "hires 0 = 0", "alone 2 = BAD");
        new Script("STATE: somebody leads").told(TOWN).due("hires 0 = 0", "alone 0 = STATE", "leaves = 0", "alone 0 = 1")
            .due("now * = 1 4 0 NONE 3 3");
        new Script("STATE: there are no CORNERS").told("f0;").due("alone 0 = BAD", "now 4 = 0");
        new Script("the STREET is not there").told(TOWN).due("alone 1 = STATE", "alone 0 = 1", "alone 1 = 2")
            .due("alone 0 = STATE");
    }

    private static void aloneInTheFog() {
        String town = "c0;c0;s0 1 9;s0 1 1;s0 1 2;";
        new Script("if it is thin in all these MINUTES").told(town + "f0 1;").due("waits 1 = 1", "now 4 = 7", "alone 0 = 1")
            .due("now 1 = 10", "now 4 = 0", "alone 1 = STATE", "alone 0 = STATE");
        new Script("if it is thin in all these MINUTES").told(town + "f0 1;")
            .due("waits 2 = 2", "now 4 = 6", "alone 0 = STATE")
            .due("waits 6 = 8", "now 4 = 6", "alone 2 = 1", "now 1 = 10");
        new Script("if it is thin in all these MINUTES").told(town + "f0 1;")
            .due("waits 9 = 9", "now 4 = 2", "alone 2 = STATE")
            .due("alone 1 = 1", "now 1 = 10", "waits 9 = 19", "alone 1 = STATE", "now 4 = 0", "waits 1 = 20", "now 4 = 7")
            .due("alone 2 = 0", "alone 0 = STATE", "undo = 4", "alone 0 = 0", "now 1 = 29");
        new Script("the fog's bits come round").told(town + "f0 1 0;").due("waits 25 = 25", "alone 0 = 1", "now 1 = 34")
            .due("waits 2 = 36", "alone 0 = STATE", "alone 2 = 0", "alone 2 = 1", "alone 1 = STATE");
        new Script("thick, if no FOG is told").told(town).due("now 4 = 0", "alone 0 = STATE", "alone 1 = STATE");
        new Script("thin for ever").told(town + "f0;").due("waits 95 = 95", "alone 0 = 1", "now 1 = 104", "now 4 = 7");
    }

    private static void aloneLate() {
        String town = "c0;c0;s0 1 9;s0 1 1;f0;";
        new Script("it would be too late").told(town).waitedTo(9990).due("now 4 = 3", "alone 0 = 1", "now 1 = 9999")
            .due("now 4 = 0")
            .due("alone 1 = STATE", "alone 0 = STATE");
        new Script("it would be too late").told(town).waitedTo(9991).due("now 4 = 2", "alone 0 = STATE", "now 1 = 9991");
        new Script("it would be too late").told(town).waitedTo(9998).due("now 4 = 2", "alone 1 = 1")
            .due("now * = 1 9999 0 NONE 0 0");
    }

    private static void waited() {
        new Script("WAITED: n (1 .. 99) MINUTES").due("waits 0 = BAD", "waits -1 = BAD", "waits 100 = BAD")
            .due("waits 2147483647 = BAD")
            .due("waits -2147483648 = BAD", "now 1 = 0", "count 8 = 0", "waits 1 = 1", "waits 99 = 100", "count 8 = 2");
        new Script("STATE: it would be above 9999").waitedTo(9900).due("waits 99 = 9999", "waits 1 = STATE")
            .due("waits 99 = STATE")
            .due("waits 0 = BAD", "waits 100 = BAD", "now 1 = 9999");
        new Script("STATE: it would be above 9999").waitedTo(9901).due("waits 99 = STATE", "now 1 = 9901")
            .due("waits 98 = 9999");
        new Script("WAITED with a GUIDE").told(TOWN).due("hires 0 = 0", "waits 99 = 99", "now * = 0 99 0 0 1 4");
    }

    private static void undone() {
        new Script("UNDONE: how many more may be. STATE: none").due("undo = STATE", "waits 3 = 3", "undo = 0", "now 1 = 0")
            .due("undo = STATE", "now 1 = 0", "count 8 = 0");
        Script ten = new Script("10 are known");
        for (int i = 1; i <= 10; i++) ten.due("waits 1 = " + i, "count 8 = " + i);
        for (int i = 9; i >= 0; i--) ten.due("undo = " + i, "now 1 = " + i, "count 8 = " + i);
        ten.due("undo = STATE");
        new Script("UNDONE is not itself UNDONE").due("waits 3 = 3", "waits 4 = 7", "undo = 1", "waits 5 = 8", "undo = 1")
            .due("now 1 = 3", "undo = 0", "now 1 = 0");
    }

    private static void allCalls() {
        Script script = new Script("An object is used for at most 512 calls");
        for (int i = 0; i < 255; i++) script.due("waits 99 = 99", "undo = 0");
        script.due("waits 99 = 99", "now 1 = 99");
    }

    private static void undoneOfEachKind() {
        new Script("all is as ahead of it").told(TOWN)
            .due("alone 0 = 1", "waits 2 = 6", "hires 0 = 6", "hires 1 = 8", "leads 1 = 2", "leaves = 1", "waits 9 = 20")
            .due("now * = 2 20 9 NONE 2 2")
            .due("undo = 6", "now * = 2 11 9 NONE 0 2", "undo = 5", "now * = 2 11 9 1 2 0", "undo = 4")
            .due("now * = 1 8 0 1 2 1")
            .due("undo = 3", "now * = 1 6 0 0 1 2", "undo = 2", "now * = 1 6 0 NONE 3 3", "undo = 1")
            .due("now * = 1 4 0 NONE 3 3")
            .due("undo = 0", "now * = 0 0 0 NONE 1 5", "undo = STATE");
    }

    private static void lostWhenMoreThanTen() {
        for (int more = 1; more <= 3; more++) {
            Script script = new Script("10 are known, older ones are lost").told(TOWN);
            script.due("hires 0 = 0", "leads 0 = 1");
            for (int i = 1; i <= 8 + more; i++) script.due("waits " + i + " = " + (5 + i * (i + 1) / 2))
                .due("count 8 = " + Math.min(10, i + 2));
            for (int i = 9; i >= 0; i--) script.due("undo = " + i);
            int minute = more == 1 ? 0 : more == 2 ? 5 : 6;
            script.due("undo = STATE", "now 0 = " + (more == 1 ? 0 : 1), "now 1 = " + minute)
                .due("now 2 = " + (more == 1 ? 0 : 10), "now 3 = 0");
        }
        Script mixed = new Script("10 are known, older ones are lost, of each kind").told(TOWN)
            .due("waits 1 = 1", "hires 2 = 1", "hires 0 = 3", "leads 0 = 1", "hires 1 = 10", "leads 1 = 2", "leads 1 = 1");
        mixed.due("hires 0 = 18", "leads 0 = 0", "leaves = 0", "alone 0 = 1", "waits 9 = 36", "count 8 = 10")
            .due("undo = 9", "now * = 1 27 38 NONE 2 3", "undo = 8", "undo = 7", "now 3 = 0", "undo = 6", "undo = 5")
            .due("undo = 4")
            .due("undo = 3", "undo = 2", "now * = 1 8 10 0 1 2", "undo = 1", "now * = 0 3 0 0 1 4")
            .due("undo = 0", "now * = 0 1 0 2 1 1", "undo = STATE");
    }

    private static void refusedIsNotUndone() {
        new Script("Refused, and nothing changes").told(TOWN).due("waits 1 = 1", "hires 9 = BAD", "hires 1 = STATE")
            .due("leaves = STATE")
            .due("leads 0 = STATE", "leads 9 = BAD", "alone 1 = STATE", "alone 9 = BAD", "waits 0 = BAD", "back 0 = STATE")
            .due("count 8 = 1", "now * = 0 1 0 NONE 1 5", "undo = 0", "undo = STATE");
        Script full = new Script("Refused, and nothing is lost");
        for (int i = 1; i <= 10; i++) full.due("waits " + i + " = " + i * (i + 1) / 2);
        full.due("waits 0 = BAD", "waits 100 = BAD", "leaves = STATE", "hires 0 = BAD", "leads 0 = BAD", "alone 0 = BAD")
            .due("count 8 = 10");
        for (int i = 9; i >= 0; i--) full.due("undo = " + i);
        full.due("now 1 = 0");
    }

    private static void nowWithGuides() {
        new Script("GUIDES that can be HIRED now (bits)").told("c0;c0;g0 0 0 0 1 0;g0 0 0 0 2 0;g0 0 0 0 3 0;g0 0 0 0 1 0;")
            .due("now 5 = 13", "hires 3 = 0", "now 5 = 5", "hires 2 = 1", "now 5 = 9", "leaves = 2", "now 5 = 13");
        new Script("STREETS he may be LED over now (bits)")
            .told("c0;c0;c0;s0 1 1;s0 1 2;s1 2 1;s2 0 1;s0 2 1;s0 1 1;s0 1 1;s1 0 1;s2 0 3;g0 0 27 15 7 0;")
            .due("now 4 = 0", "hires 0 = 0", "now 4 = 507", "leads 8 = 2", "now 4 = 280", "leads 4 = 0", "leads 7 = 1")
            .due("now 4 = 227");
    }

    private static void nowAlone() {
        new Script("or ALONE, if not (bits)")
            .told("c0;c0;c0;s0 1 1;s0 1 2;s1 2 1;s2 0 1;s0 2 1;s0 1 1;s0 1 1;s1 0 1;s2 0 9;f0 1;")
            .due("now 4 = 507", "alone 8 = 2", "now 4 = 28", "alone 2 = 1", "now 4 = 0", "waits 10 = 20", "now 4 = 231");
    }

    private static void nowLate() {
        new Script("STREETS he may be LED over now: none too late").told("c0;c0;s0 1 1;s0 1 2;s0 1 3;g1 0 7 0 3 0;")
            .due("hires 0 = 0")
            .waitedTo(9995).due("now 4 = 7", "waits 1 = 9996", "now 4 = 3", "waits 1 = 9997", "now 4 = 1", "waits 1 = 9998")
            .due("now 4 = 0");
        new Script("ALONE: none too late").told("c0;c0;s0 1 1;s0 1 2;s0 1 3;f0;").waitedTo(9996)
            .due("now 4 = 7", "waits 1 = 9997", "now 4 = 3", "waits 1 = 9998", "now 4 = 1", "waits 1 = 9999", "now 4 = 0");
    }

    private static void images() {
        new Script("IMAGES 0, 1").due("keep -1 = BAD", "keep 2 = BAD", "keep 2147483647 = BAD", "keep -2147483648 = BAD")
            .due("back -1 = BAD", "back 2 = BAD", "back 2147483647 = BAD", "back -2147483648 = BAD", "back 0 = STATE")
            .due("back 1 = STATE")
            .due("keep 0 = 0", "back 1 = STATE", "back 0 = 0");
        new Script("An IMAGE is kept: the MINUTE").due("waits 3 = 3", "keep 1 = 3", "back 0 = STATE", "waits 4 = 7")
            .due("keep 0 = 7")
            .due("back 1 = 3", "back 0 = 7", "back 1 = 3", "keep 0 = 3", "waits 9 = 12", "back 0 = 3");
    }

    private static void imagesKeepNowAlone() {
        new Script("keep NOW (the CORNER, the MINUTE, PAID, the GUIDE, what may be UNDONE); nothing else").told(TOWN)
            .due("hires 0 = 0", "leads 0 = 1", "feels 0 = 1", "went 0 = 1", "wishes 0 1 5 = 1", "rate 0 0 = 2").typed("c0")
            .due("keep 1 = 5", "hires 1 = 7", "leads 1 = 2", "feels 1 = 2", "went 1 = 2", "wishes 1 0 6 = 2")
            .due("rate 0 1 = 3").typed(";")
            .due("back 1 = 5", "now * = 1 5 10 0 1 2", "count * = 3 2 3 2 2 2 2 2 2 3", "trace = 2", "clear = 3")
            .due("forget = 4", "grants = 2", "back 1 = 5", "count * = 3 2 3 2 2 0 0 0 2 0");
    }

    private static void imagesAndUndone() {
        Script script = new Script("what may be UNDONE").told(TOWN).due("keep 0 = 0", "hires 0 = 0", "leads 0 = 1");
        for (int i = 1; i <= 10; i++) script.due("waits 1 = " + (5 + i));
        script.due("keep 1 = 15", "back 0 = 0", "undo = STATE", "count 8 = 0", "waits 50 = 50", "back 1 = 15")
            .due("count 8 = 10");
        for (int i = 9; i >= 0; i--) script.due("undo = " + i, "now 1 = " + (5 + i));
        script.due("undo = STATE", "back 1 = 15", "undo = 9", "waits 80 = 94", "back 1 = 15", "undo = 9", "now 1 = 14");
        Script other = new Script("what may be UNDONE: CORNER, MINUTE, PAID and GUIDE ahead of each").told(TOWN)
            .due("hires 2 = 0", "hires 0 = 2", "leads 0 = 1", "hires 1 = 9", "leads 1 = 2", "leaves = 1", "keep 0 = 12");
        for (int i = 5; i >= 0; i--) other.due("undo = " + i);
        for (int i = 1; i <= 10; i++) other.due("waits 1 = " + i);
        other.due("back 0 = 12", "now * = 2 12 19 NONE 0 2", "undo = 5", "now * = 2 12 19 1 2 0", "undo = 4")
            .due("now * = 1 9 10 1 2 1")
            .due("undo = 3", "now * = 1 7 10 0 1 2", "undo = 2", "now * = 0 2 0 0 1 4", "undo = 1", "now * = 0 0 0 2 1 1")
            .due("undo = 0", "now * = 0 0 0 NONE 1 5", "undo = STATE");
        new Script("what comes behind keep() leaves the IMAGE as it was").told(TOWN)
            .due("hires 0 = 0", "keep 0 = 0", "leads 0 = 1")
            .due("undo = 1", "undo = 0", "alone 0 = 1", "waits 5 = 9", "back 0 = 0", "now 3 = 0", "undo = 0")
            .due("now 3 = NONE");
        new Script("back() is not UNDONE").due("waits 5 = 5", "keep 0 = 5", "waits 5 = 10", "waits 5 = 15", "back 0 = 5")
            .due("undo = 0")
            .due("now 1 = 0", "undo = STATE");
    }
}
