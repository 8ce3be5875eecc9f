/** Promises 1 to 8, and the text: each sentence of the document that names a boundary, just within it and just beyond. */
public final class TownBoundsTest {
    private static final String SEVEN = "c0;c1;c2;c3;c0;c1;c2;";
    private static final String NINE = "s0 1 1;s1 2 2;s2 3 3;s3 4 4;s4 5 5;s5 6 6;s6 0 7;s0 3 8;s1 5 9;";
    private static final String FOUR = "g0 0 0 0 0 0;g1 1 1 1 1 1;g2 2 2 2 2 2;g5 9 31 15 31 3;";

    public static void main(String[] args) {
        newObject();
        bytes();
        clearing();
        corners();
        marks();
        streets();
        streetCorners();
        lengths();
        guides();
        guideNumbers();
        guideBits();
        fogBits();
        fogComesRound();
        fogMinutes();
        hand();
        once();
        blanks();
        bytesThatBeginNoToken();
        letters();
        numbers();
        endsTooEarly();
        firstFaultCounts();
        faultChangesNothing();
        readAnew();
        nothingOfOlderTexts();
        nothingIsTold();
        Script.end();
    }

    private static void newObject() {
        new Script("As told; no CORNERS")
            .due("count * = 0 0 0 1 0 0 0 0 0 0", "now * = NONE 0 0 NONE 0 0", "trace = 0", "fog 0 = 1", "fog 9999 = 1")
            .due("corner 0 = BAD", "street 0 0 = BAD", "guide 0 0 = BAD", "hires 0 = BAD", "leads 0 = BAD", "alone 0 = BAD")
            .due("soonest 0 0 0 = BAD", "cheapest 0 0 0 = BAD", "byOne 0 0 = BAD", "forFee 0 0 0 = BAD")
            .due("byBells 0 0 0 = BAD", "taught 0 0 = BAD", "went 0 = BAD", "wishes 0 1 0 = BAD", "day 0 0 0 0 = BAD")
            .due("rate 0 0 = NO", "leaves = STATE", "undo = STATE", "back 0 = STATE", "back 1 = STATE")
            .due("clear = 0", "forget = 0", "grants = 0", "fits * = 0 0 0 0", "falseMark = 0");
    }

    private static void bytes() {
        new Script("A byte (0 .. 255) comes to THE TEXT")
            .due("type -2147483648 = BAD", "type -1 = BAD", "type 256 = BAD", "type 2147483647 = BAD", "count 9 = 0")
            .due("type 0 = 1", "type 255 = 2", "count 9 = 2");
        String text = "c0;" + " ".repeat(190) + "c1;h9;";
        new Script("a text (200 bytes at most)").typed(text).due("count 9 = 199").typed(" ").due("count 9 = 200")
            .due("type 59 = FULL", "type 0 = FULL", "type 255 = FULL", "count 9 = 200")
            .due("type -1 = BAD", "type 256 = BAD", "count 9 = 200")
            .due("town = 3", "count 9 = 0", "count 0 = 2", "count 3 = 9", "type 99 = 1");
        String last = "c0;" + " ".repeat(194) + "c1;";
        new Script("a text (200 bytes at most)").typed(last).due("type 59 = FULL", "town = 2", "corner 1 = 1");
        new Script("a text (200 bytes at most)").fault("c0;" + " ".repeat(196) + ";", 199);
        new Script("the text's length, if it ends too early").fault("c0;" + " ".repeat(195) + "c1", 200);
        new Script("the text's length, if it ends too early").fault("c" + " ".repeat(199), 200);
        new Script("a text (200 bytes at most)").typed(" ".repeat(200)).due("town = 0", "count 9 = 0");
    }

    private static void clearing() {
        new Script("THE TEXT is empty: how many bytes it had").due("clear = 0").typed("c").due("clear = 1", "clear = 0")
            .typed(" ".repeat(200)).due("type 32 = FULL", "clear = 200", "count 9 = 0", "type 32 = 1");
        new Script("THE TEXT is empty: how many bytes it had").told(SEVEN + "h3;").typed("c0").due("clear = 2")
            .due("count 0 = 7", "count 3 = 3", "town = 0", "count 0 = 0");
        new Script("bytes that were cleared, or read, tell nothing").fault("c0;cc", 3).fault("c0;c", 4).fault("c0;c12", 4)
            .fault("c0;c1", 5).fault("c0;c1;c0;c0;h1;h", 15).told("c0;c1;").fault("c0;c0;f", 7)
            .told("c0;").due("count 0 = 1");
        new Script("a text (200 bytes at most)").fault(" ".repeat(199) + "c", 200);
        new Script("a text (200 bytes at most)").fault("c" + " ".repeat(198) + "0", 200);
        new Script("a text (200 bytes at most)").fault("c0;" + " ".repeat(196) + "z", 199);
    }

    private static void corners() {
        new Script("CORNERS 0 .. (7 of them at most)").told(SEVEN).due("count 0 = 7", "corner * = 0 1 2 3 0 1 2 BAD")
            .due("corner -1 = BAD", "corner -2147483648 = BAD", "corner 2147483647 = BAD");
        new Script("The MARK of a CORNER. BAD").told("c2;").due("corner * = 2 BAD");
        new Script("an eighth corner").fault(SEVEN + "c0;", 21).fault(SEVEN + "  c0;", 23).fault(SEVEN + "c", 21)
            .fault(SEVEN + "c9;", 21).fault(SEVEN + "h1;c0;", 24).due("count 0 = 0");
    }

    private static void marks() {
        new Script("MARK (0 .. 3)").told("c0;c3;").due("corner * = 0 3");
        new Script("MARK (0 .. 3)").fault("c4;", 1).fault("c9;", 1).fault("c 99;", 2).fault("c0;c1;c2;c3;c4;", 13);
    }

    private static void streets() {
        new Script("STREETS 0 .. (9 of them at most)").told(SEVEN + NINE).due("count 1 = 9", "street 8 * = 1 5 9 BAD")
            .due("street 0 * = 0 1 1 BAD", "street 0 -1 = BAD", "street 9 0 = BAD", "street -1 0 = BAD")
            .due("street 2147483647 0 = BAD", "street -2147483648 2 = BAD", "street 0 2147483647 = BAD");
        new Script("Of a STREET: 0, 1 its CORNERS as told, 2 LENGTH. BAD").told("c0;c0;s1 0 4;s0 1 5;")
            .due("street 0 * = 1 0 4", "street 1 * = 0 1 5", "street 2 * = BAD BAD BAD");
        new Script("a tenth street").fault(SEVEN + NINE + "s0 1 1;", 84).fault(SEVEN + NINE + "s", 84)
            .fault(SEVEN + NINE + " s9;", 85);
    }

    private static void streetCorners() {
        new Script("corners told ahead").told(SEVEN + "s6 0 1;s0 6 1;").due("street 0 * = 6 0 1", "street 1 * = 0 6 1");
        new Script("corners told ahead").fault(SEVEN + "s7 0 1;", 22).fault(SEVEN + "s0 7 1;", 24);
        new Script("corners told ahead").told("c0;c0;s1 0 1;c0;s2 1 1;").due("count 1 = 2");
        new Script("corners told ahead").fault("s0 1 1;", 1).fault("c0;s1 0 1;", 4).fault("c0;s0 1 1;c0;", 6)
            .fault("c0;c0;s2 0 1;c0;", 7).fault("c0;c0;s0 2 1;c0;", 9);
        new Script("B that is A").fault("c0;s0 0 1;", 6).fault("c0;c0;s0 0 1;", 9).fault("c0;c0;s1  1 1;", 10)
            .fault(SEVEN + "s6 6 9;", 24);
    }

    private static void lengths() {
        new Script("LENGTH (1 .. 9 MINUTES)").told("c0;c0;s0 1 1;s0 1 9;").due("street 0 2 = 1", "street 1 2 = 9");
        new Script("LENGTH (1 .. 9 MINUTES)").fault("c0;c0;s0 1 0;", 11).fault("c0;c0;s0 1 10;", 11)
            .fault("c0;c0;s0 1 99;", 11);
    }

    private static void guides() {
        new Script("GUIDES 0 .. (4 of them at most)").told(SEVEN + NINE + FOUR)
            .due("count 2 = 4", "guide 3 * = 5 9 511 127 BAD", "guide 0 * = 0 0 0 0 BAD", "guide 1 * = 1 1 33 33 BAD")
            .due("guide 4 0 = BAD", "guide -1 0 = BAD", "guide 3 -1 = BAD", "guide 2147483647 0 = BAD")
            .due("guide -2147483648 0 = BAD", "guide 0 -2147483648 = BAD");
        new Script("a fifth guide").fault(FOUR + "g0 0 0 0 0 0;", 55).fault(FOUR + "g", 55).fault(FOUR + " g9;", 56);
    }

    private static void guideNumbers() {
        new Script("PACE (0 .. 5 MINUTES more for each STREET)").told("g5 0 0 0 0 0;").due("guide 0 0 = 5");
        new Script("PACE (0 .. 5 MINUTES more for each STREET)").fault("g6 0 0 0 0 0;", 1);
        new Script("FEE (0 .. 9 for each MINUTE)").told("g0 9 0 0 0 0;").due("guide 0 1 = 9");
        new Script("FEE (0 .. 9 for each MINUTE)").fault("g0 10 0 0 0 0;", 3);
        new Script("those of STREETS 0 .. 4, 0 .. 31").told(SEVEN + NINE + "g0 0 31 0 0 0;").due("guide 0 2 = 31");
        new Script("those of STREETS 0 .. 4, 0 .. 31").fault("g0 0 32 0 0 0;", 5);
        new Script("of 5 .. 8, 0 .. 15").told(SEVEN + NINE + "g0 0 0 15 0 0;").due("guide 0 2 = 480");
        new Script("of 5 .. 8, 0 .. 15").fault("g0 0 0 16 0 0;", 7);
        new Script("those of 0 .. 4, 0 .. 31").told(SEVEN + "g0 0 0 0 31 0;").due("guide 0 3 = 31");
        new Script("those of 0 .. 4, 0 .. 31").fault("g0 0 0 0 32 0;", 9);
        new Script("of 5, 6, 0 .. 3").told(SEVEN + "g0 0 0 0 0 3;").due("guide 0 3 = 96");
        new Script("of 5, 6, 0 .. 3").fault("g0 0 0 0 0 4;", 11);
    }

    private static void guideBits() {
        for (int bit = 0; bit < 9; bit++) {
            String bits = bit < 5 ? (1 << bit) + " 0" : "0 " + (1 << bit - 5);
            new Script("the STREETS that he KNOWS (bits, two NUMBERS").told(SEVEN + NINE + "g0 0 " + bits + " 0 0;")
                .due("guide 0 2 = " + (1 << bit), "guide 0 3 = 0");
        }
        for (int bit = 0; bit < 7; bit++) {
            String bits = bit < 5 ? (1 << bit) + " 0" : "0 " + (1 << bit - 5);
            new Script("the CORNERS that are HIS (bits, two NUMBERS").told(SEVEN + "g0 0 0 0 " + bits + ";")
                .due("guide 0 3 = " + (1 << bit), "guide 0 2 = 0");
        }
        String full = "g2 3 31 15 31 3;";
        for (int corners = 0; corners <= 7; corners++) {
            String told = SEVEN.substring(0, corners * 3);
            new Script("Bits of STREETS, CORNERS that there are not: well, they tell nothing").told(told + full)
                .due("guide 0 * = 2 3 0 " + ((1 << corners) - 1), "rate 2 0 = 3", "rate 4 0 = " + (3 + corners));
        }
        for (int streets = 0; streets <= 9; streets++) {
            String told = SEVEN + NINE.substring(0, streets * 7);
            new Script("Bits of STREETS, CORNERS that there are not: well, they tell nothing").told(told + full)
                .due("guide 0 * = 2 3 " + ((1 << streets) - 1) + " 127", "rate 2 0 = " + (3 - streets));
        }
        new Script("Bits of STREETS, CORNERS that there are not").told("g0 0 31 15 31 3;c0;c0;s0 1 1;g0 0 2 0 4 0;")
            .due("guide 0 * = 0 0 1 3", "guide 1 * = 0 0 0 0", "taught 1 * = 0 0", "taught 0 * = NONE NONE", "now 5 = 1");
        new Script("Bits that told nothing tell nothing of what the next text has").told("c0;" + full).due("guide 0 3 = 1")
            .told(SEVEN + "g0 0 0 0 0 0;").due("guide 0 * = 0 0 0 0");
    }

    private static void fogBits() {
        new Script("FOG: bits (1 thick, 0 thin), 1 to 8 of them").told("f0;").due("count 4 = 1", "fog 0 = 0", "fog 9999 = 0")
            .told("f1;").due("count 4 = 1", "fog 0 = 1", "fog 9999 = 1")
            .told("f0 1 0 0 1 1 0 1;").due("count 4 = 8", "fog 0 = 0", "fog 10 = 1", "fog 20 = 0", "fog 30 = 0")
            .due("fog 40 = 1", "fog 50 = 1", "fog 60 = 0", "fog 70 = 1", "fog 80 = 0");
        new Script("f and bits (1 to 8 NUMBERS 0, 1").fault("f;", 1).fault("f", 1).fault("f2;", 1).fault("f0 2;", 3)
            .fault("f0 1 0 1 0 1 0 2;", 15).fault("f10;", 1).fault("f01;", 1).fault("f c0;", 2);
        new Script("a ninth bit").fault("f0 1 0 1 0 1 0 1 0;", 17).fault("f0 1 0 1 0 1 0 1 1", 17)
            .fault("f0 1 0 1 0 1 0 1 9;", 17).fault("f0 1 0 1 0 1 0 1", 16).due("count 4 = 0");
        new Script("1 alone, if none are told").told("f0;").told("c0;").due("count 4 = 0", "fog 0 = 1", "fog 10 = 1");
    }

    private static void fogComesRound() {
        for (int bits = 2; bits <= 8; bits++) {
            int round = bits * 10;
            int end = 999 % bits == bits - 1 ? 1 : 0;
            new Script("that come round, each for 10 MINUTES").told("f" + "0 ".repeat(bits - 1) + "1;")
                .due("count 4 = " + bits, "fog 0 = 0", "fog " + (round - 11) + " = 0", "fog " + (round - 10) + " = 1")
                .due("fog " + (round - 1) + " = 1", "fog " + round + " = 0", "fog " + (2 * round - 11) + " = 0")
                .due("fog " + (2 * round - 10) + " = 1", "fog " + (2 * round - 1) + " = 1", "fog " + 2 * round + " = 0")
                .due("fog 9990 = " + end, "fog 9999 = " + end);
            int first = 999 % bits == 0 ? 1 : 0;
            new Script("that come round, each for 10 MINUTES").told("f1" + " 0".repeat(bits - 1) + ";")
                .due("fog 0 = 1", "fog 9 = 1", "fog 10 = 0", "fog " + (round - 1) + " = 0", "fog " + round + " = 1")
                .due("fog " + (round + 9) + " = 1", "fog " + (round + 10) + " = 0", "fog 9999 = " + first);
        }
    }

    private static void fogMinutes() {
        new Script("Whether it is thick in a MINUTE (0 .. 9999)").told("f0 1;").due("fog 0 = 0", "fog 9999 = 1")
            .due("fog -1 = BAD", "fog 10000 = BAD", "fog 2147483647 = BAD", "fog -2147483648 = BAD", "fog -10 = BAD");
        new Script("Whether it is thick in a MINUTE (0 .. 9999)").due("fog -1 = BAD", "fog 10000 = BAD", "fog 9999 = 1");
    }

    private static void hand() {
        new Script("HAND: MINUTES a handing over costs (0 .. 9; 1 at first)").due("count 3 = 1")
            .told("h0;").due("count 3 = 0").told("h9;").due("count 3 = 9").told("c0;").due("count 3 = 1");
        new Script("HAND: MINUTES a handing over costs (0 .. 9; 1 at first)").fault("h10;", 1).fault("h99;", 1)
            .fault("h;", 1).fault("h1 1;", 3).due("count 3 = 1");
    }

    private static void once() {
        new Script("fog; once at most").fault("f0;f0;", 3).fault("f0;f", 3).fault("f0;c0; f1;", 7).due("count 4 = 0")
            .told("f0 1;").due("count 4 = 2").told("f0;").due("count 4 = 1");
        new Script("hand; once at most").fault("h1;h1;", 3).fault("h0;h", 3).fault("h0;c0; h0;", 7).due("count 3 = 1")
            .told("h2;").due("count 3 = 2").told("h3;").due("count 3 = 3");
        new Script("once at most").told("h0;f0;").fault("f1;h1;h1;", 6).fault("h1;f1;f1;", 6)
            .due("count 3 = 0", "fog 0 = 0");
    }

    private static void blanks() {
        new Script("blanks (32) between TOKENS").told("c0;c1;s0 1 1;g1 2 3 4 1 2;f0 1;h2;").due("count 0 = 2", "count 3 = 2")
            .told("   c   0   ;   c   1   ;   s   0   1   1   ;   g   1   2   3   4   1   2   ;   f   0   1   ;   h   2   ;   ")
            .due("count 0 = 2", "count 1 = 1", "count 2 = 1", "count 3 = 2", "count 4 = 2", "guide 0 * = 1 2 1 1");
        new Script("a byte that begins none").fault("c\t0;", 1).fault("c0;\n", 3).fault("c0" + (char) 160 + ";", 2)
            .fault((char) 0 + "c0;", 0).fault("c0; \r", 4);
        new Script("blanks (32) between TOKENS").fault("c0;c0;s01 1;", 7).fault("c0;c0;s0 11;", 9).fault("c 0 0;", 4);
    }

    private static void bytesThatBeginNoToken() {
        for (int b = 0; b < 256; b++) {
            String text = "c0;" + (char) b;
            boolean begins = "csgfh".indexOf(b) >= 0;
            if (b == ' ') new Script("blanks (32) between TOKENS").told(text);
            else new Script("letters that begin no ITEM, a byte that begins no TOKEN").fault(text, begins ? 4 : 3);
            String inside = "c" + (char) b + "0;";
            boolean good = b == ' ';
            if (good) new Script("blanks (32) between TOKENS").told(inside);
            else if (b >= '1' && b <= '9') new Script("a NUMBER beyond what it may be").fault(inside, 1);
            else new Script("a TOKEN that can't stand there").fault(inside, b >= 'a' && b <= 'z' ? 0 : 1);
        }
    }

    private static void letters() {
        new Script("letters a .. z side by side").fault("cc0;", 0).fault("c0;ch0;", 3).fault("ca;", 0).fault("c c0;", 2)
            .fault("fh0;", 0).fault("c0;zc;", 3).fault("gs", 0).fault("c0c;", 2).fault("C0;", 0).fault("c0;S0 1 1;", 3);
        new Script("letters that begin no ITEM").fault("a0;", 0).fault("c0; b0;", 4).fault("z;", 0).fault("0;", 0)
            .fault(";", 0).fault("c0;;", 3).fault("c0; 9;", 4).fault("`0;", 0).fault("{0;", 0).fault("99 0;", 0);
        new Script("each letters and what is told").fault("c;", 1).fault("c0;c;", 4).fault("c0;c0;s;", 7)
            .fault("c0;c0;s0;", 8)
            .fault("c0;c0;s0 1;", 10).fault("c0;c0;s0 1 1 1;", 13).fault("c0;c0;s0 1 1 c", 13).fault("g;", 1)
            .fault("g0 0 0 0 0;", 10).fault("g0 0 0 0 0 0 0;", 13).fault("g0 0 0 0 0 h;", 11).fault("c0 h1;", 3);
    }

    private static void numbers() {
        new Script("a NUMBER above 99").fault("c99;", 1).fault("c100;", 1).fault("c0;c0;s0 100 1;", 9).fault("h256;", 1)
            .fault("c4294967296;", 1).fault("c4294967297;", 1).fault("c18446744073709551616;", 1).fault("c65536;", 1)
            .fault("f0 1000000000000000000000000000000;", 3).fault("c0;100;", 3).fault("c0 100;", 3);
        new Script("with a 0 ahead of others").fault("c00;", 1).fault("c01;", 1).fault("c0;c03;", 4).fault("h09;", 1)
            .fault("f0 00;", 3).fault("f0 01;", 3).fault("c0;c0;s0 01 1;", 9).fault("c0;c0;s00 1 1;", 7).fault("h000;", 1)
            .fault("g00 0 0 0 0 0;", 1).fault("g0 0 0 0 0 00;", 11).fault("c0 00;", 3).fault("00;", 0);
        new Script("NUMBERS have no sign").fault("c-0;", 1).fault("c-1;", 1).fault("c+1;", 1).fault("h1.5;", 2);
    }

    private static void endsTooEarly() {
        String[] items = {"c3;", "s 0  1 9;", "g5 9 31 15 31 3;", "g 0 0 10 10 30 0 ;", "f0 1 0 1 0 1 0 1;", "h 9 ;"};
        for (String item : items) {
            for (int end = 1; end < item.length(); end++) {
                String text = "c0;c1;" + item.substring(0, end);
                new Script("the text's length, if it ends too early").fault(text, text.length())
                    .fault(text + "  ", text.length() + 2);
            }
            new Script("how many ITEMS").told("c0;c1;" + item);
        }
    }

    private static void firstFaultCounts() {
        new Script("the first TOKEN that can't stand there").fault("c9;c9;", 1).fault("x c9 100", 0).fault("c0;f2 2;h10;", 4)
            .fault("c0;c0;s0 0 0;", 9).fault("c0;c0;s2 2 0;", 7).fault("g6 10 32 16 32 4", 1).fault("g0 10 32 16 32 4", 3)
            .fault("c0;s0 0", 6).fault("h1;h", 3);
    }

    private static void faultChangesNothing() {
        new Script("-10 less FAULT: nothing changes").told("c1;c2;s0 1 3;g1 2 1 0 3 0;g0 0 0 0 3 0;f0 1;h4;")
            .due("hires 0 = 0", "leads 0 = 1", "keep 0 = 4", "hires 1 = 8", "feels 1 = 1", "went 1 = 1", "wishes 0 1 9 = 1")
            .due("rate 0 0 = 2").typed("c0;g5 5 0 0 1 0;f1;h9;c;").due("town = -33", "count 9 = 24")
            .due("count * = 2 1 2 4 2 1 1 1 3 24", "now * = 1 8 8 1 0 1", "corner * = 1 2", "street 0 * = 0 1 3")
            .due("guide 0 * = 1 2 1 3", "guide 1 * = 0 0 0 3", "fog 0 = 0", "fog 10 = 1", "trace = 1")
            .due("town = -33", "back 0 = 4", "now 3 = 0", "fits * = 1 1 1 1", "falseMark = 2", "day 0 0 4 0 = 9")
            .due("type 59 = 25", "town = -33", "clear = 25");
    }

    private static void readAnew() {
        new Script("Read anew: as told, at CORNER 0, nothing FELT, WENT, no WISHES, nothing to be UNDONE, IMAGES are gone")
            .told("c1;c2;s0 1 3;g1 2 1 0 3 0;g0 0 0 0 3 0;f0 1;h4;")
            .due("hires 0 = 0", "leads 0 = 1", "keep 0 = 4", "waits 9 = 13", "keep 1 = 13", "feels 1 = 1", "went 1 = 1")
            .due("wishes 0 1 9 = 1", "rate 5 0 = 15", "trace = 100001").told("c3;c0;c2;")
            .due("count * = 3 0 0 1 0 0 0 0 0 0", "now * = 0 0 0 NONE 0 0", "corner * = 3 0 2 BAD", "street 0 0 = BAD")
            .due("guide 0 0 = BAD", "fog 0 = 1", "undo = STATE", "back 0 = STATE", "back 1 = STATE", "forget = 0")
            .due("grants = 0", "leaves = STATE", "trace = 100001");
        new Script("Read anew, the same text: IMAGES are gone").told("c0;").due("waits 5 = 5", "keep 0 = 5", "keep 1 = 5")
            .told("c0;").due("now 1 = 0", "back 0 = STATE", "back 1 = STATE", "keep 1 = 0", "back 0 = STATE", "back 1 = 0");
    }

    /** Of no text read ahead of it anything is left, be it the latest or an older one. */
    private static void nothingOfOlderTexts() {
        String much = "c1;c2;c3;s0 1 1;s1 2 2;s2 0 3;g5 9 7 0 7 0;g0 1 7 0 7 0;f0;h4;";
        for (int between = 0; between <= 2; between++) {
            Script script = new Script("Read anew: as told").told(much);
            for (int i = 0; i < between; i++) script.told("c0;");
            script.told("c0;c0;f0;").due("count * = 2 0 0 1 1 0 0 0 0 0", "now * = 0 0 0 NONE 0 0", "byBells 0 0 1 = NONE")
                .due("soonest 0 1 0 = NONE")
                .due("byOne 0 1 = 0", "forFee 0 1 1 = 0", "feels 0 = 1", "fits * = 2 3 3 0", "went 0 = 1", "went 1 = STATE")
                .due("corner * = 0 0 BAD")
                .due("street 0 0 = BAD", "guide 0 0 = BAD", "alone 0 = BAD", "hires 0 = BAD", "rate 0 0 = NO")
                .due("day 0 0 9 0 = BAD")
                .told("c0;c0;s0 1 9;g0 0 0 0 1 0;").due("street 0 * = 0 1 9", "guide 0 * = 0 0 0 1", "fog 0 = 1")
                .due("count 3 = 1", "count 4 = 0");
        }
    }

    private static void nothingIsTold() {
        new Script("THE TEXT tells all, and is empty then: how many ITEMS").due("town = 0").told("c0;f0;h3;")
            .due("waits 5 = 5", "keep 0 = 5", "town = 0", "count * = 0 0 0 1 0 0 0 0 0 0", "now * = NONE 0 0 NONE 0 0")
            .due("fog 0 = 1", "back 0 = STATE", "corner 0 = BAD");
        new Script("how many ITEMS").told("h0;").told("f0;").told("c0;").told("g0 0 0 0 0 0;").told(SEVEN + NINE + "f0;h0;");
    }
}
