/** "Terms", sentence by sentence: the corners, the text that becomes a town, and its faults. */
final class TermsTextTest {
    private static final Due DUE = new Due();
    private static final String EIGHT_ERRANDS = "e01@0,1;e01@0,1;e01@0,1;e01@0,1;e01@0,1;e01@0,1;e01@0,1;";
    private static final String NINE_STREETS = "s01,1;s01,1;s01,1;s01,1;s01,1;s01,1;s01,1;s01,1;s01,1;";
    private static final String FOUR_STREETS = "s01,1;s01,1;s01,1;s01,1;";

    private TermsTextTest() { }

    public static void main(String[] args) {
        corners();
        texts();
        cornersTold();
        cornersToldOf();
        streetEnds();
        streetMinutes();
        broadStreets();
        manyStreets();
        errandEnds();
        errandAts();
        errandWorths();
        manyErrands();
        mustStreets();
        mustKinds();
        oneStatement();
        writtenWrong();
        saidWrong();
        saidWrongFirst();
        allOrNothing();
        noughtsAhead();
        DUE.end();
    }

    private static void says(String words) {
        DUE.says(Document.TERMS, words);
    }

    /** The answer of a new object to each text. */
    private static void dueNew(Object... textsAndAnswers) {
        for (int i = 0; i + 1 < textsAndAnswers.length; i += 2) {
            String text = (String) textsAndAnswers[i];
            DUE.due("\"" + text + "\"", Due.toldNew(text), (Integer) textsAndAnswers[i + 1]);
        }
    }

    private static void corners() {
        says("CORNERS 0 .. 9 (2 .. 10 of them; 4 at first).");
        OneWayTillNoon x = new OneWayTillNoon();
        DUE.due("at first", x.count(0), 4);
        DUE.due("3 is there", x.corner(3), 1);
        DUE.due("4 is not", x.corner(4), -1);
        DUE.due("-1 is not", x.corner(-1), -1);
        DUE.due("one", Due.told(x, "k1;"), -2000);
        DUE.due("none", Due.told(x, "k0;"), -2000);
        DUE.due("four stay", x.count(0), 4);
        DUE.due("two", Due.told(x, "k2;"), 1);
        DUE.due("two are there", x.count(0), 2);
        DUE.due("1 is there", x.corner(1), 2);
        DUE.due("2 is not", x.corner(2), -1);
        DUE.due("ten", Due.told(x, "k10;"), 1);
        DUE.due("9 is there", x.corner(9), 3);
        DUE.due("10 is not", x.corner(10), -1);
        DUE.due("eleven", Due.told(x, "k11;"), -2000);
        DUE.due("ten stay", x.count(0), 10);
    }

    private static void texts() {
        says("A TOWN is read from a TEXT (64 bytes at most):");
        OneWayTillNoon x = new OneWayTillNoon();
        String full = "k4;".repeat(20) + "k05;";
        DUE.due("64 bytes come", Due.fed(x, full), 64);
        DUE.due("a 65th does not", x.feed(1, ';'), -6);
        DUE.due("64 are there", x.count(7), 64);
        DUE.due("all are read", x.town(), 21);
        DUE.due("the last, too", x.count(0), 5);
        says("STATEMENTS, each with \";\" behind:");
        dueNew("k4;", 1, "k4;k5;", 2, "k4", -1002, "k4k5;", -1002, "k4;k5", -1005, "k4;;", -1003, ";k4;", -1000,
                "k4 ;", -1002, "k4; k5;", -1003, "k4,", -1002, "k4:", -1002);
    }

    private static void cornersTold() {
        says("\"k\" how many CORNERS (1 or 2 digits;");
        dueNew("k7;", 1, "k07;", 1, "k10;", 1, "k;", -1001, "k007;", -1003, "k100;", -1003, "k-7;", -1001, "K7;", -1000,
                "k7b;", -1002, "ka;", -1001, "k/;", -1001, "k:;", -1001);
        int[] many = {2, 3, 4, 5, 6, 7, 8, 9, 10};
        for (int corners : many) {
            DUE.due("k" + corners, Due.townOf("k" + corners + ";").count(0), corners);
        }
        DUE.due("the last of several", Due.townOf("k7;k9;k3;").count(0), 3);
    }

    private static void cornersToldOf() {
        says("not fewer than are told of already);");
        String[] telling = {"k8;s70,1;", "k8;s07,1;", "k8;e70@0,1;", "k8;e07@0,1;"};
        for (String text : telling) {
            OneWayTillNoon x = Due.townOf(text, "s01,1;e01@0,1;");
            DUE.due("fewer behind " + text, Due.told(x, "k7;"), -2000);
            DUE.due("eight stay", x.count(0), 8);
            DUE.due("as many", Due.told(x, "k8;"), 1);
            DUE.due("more, and as many again", Due.told(x, "k9;k8;"), 2);
            DUE.due("eight again", x.count(0), 8);
            DUE.due("fewer in the same text as " + text, Due.toldNew(text + "k7;"), -2000 - text.length());
        }
        dueNew("k2;", 1, "k9;k2;", 2, "s01,1;k2;", 2, "s12,1;k2;", -2006, "s12,1;k3;", 2);
        OneWayTillNoon x = new OneWayTillNoon();
        DUE.due("a text that is not as it must be", Due.told(x, "k9;s78,1;k1;"), -2009);
        DUE.due("tells of none", Due.told(x, "k2;"), 1);
        DUE.due("four again", Due.told(x, "k4;"), 1);
        x.corner(3);
        DUE.due("nor does the ROW tell", Due.told(x, "k2;"), 1);
    }

    private static void streetEnds() {
        says("\"s\" two digits (CORNERS a, b) \",\"");
        OneWayTillNoon x = Due.townOf("k10;s90,1;s09,1;s58,1;");
        int[] ends = {9, 0, 0, 9, 5, 8};
        for (int i = 0; i < ends.length; i++) {
            DUE.due("end " + i, x.street(i / 2, i % 2), ends[i]);
        }
        dueNew("s,1;", -1001, "s0,1;", -1002, "s012,1;", -1003, "sa0,1;", -1001, "s0a,1;", -1002, "s01;", -1003,
                "s01.1;", -1003, "s0101;", -1003, "S01,1;", -1000, "s 01,1;", -1001, "s04,1;", -2000, "s40,1;", -2000);
    }

    private static void streetMinutes() {
        says("MINUTES (1 or 2 digits, 1 .. 60),");
        dueNew("s01,1;", 1, "s01,01;", 1, "s01,9;", 1, "s01,60;", 1, "s01,0;", -2000, "s01,00;", -2000, "s01,61;", -2000,
                "s01,99;", -2000, "s01,;", -1004, "s01,060;", -1006, "s01,100;", -1006, "s01,-1;", -1004);
        OneWayTillNoon x = Due.townOf("s01,1;s01,01;s01,60;s01,59;");
        int[] minutes = {1, 1, 60, 59};
        for (int s = 0; s < minutes.length; s++) {
            DUE.due("minutes of " + s, x.street(s, 2), minutes[s]);
        }
    }

    private static void broadStreets() {
        says("then perhaps \"b\" (BROAD):");
        dueNew("s01,1bb;", -1006, "s01,60bb;", -1007, "s01,b;", -1004, "s01,b1;", -1004, "s01,1B;", -1005, "s01,1b", -1006,
                "s01,1b1;", -1006, "s01b,1;", -1003, "s01,61b;", -2000);
        OneWayTillNoon x = Due.townOf("s01,1b;s01,1;s01,60b;s01,60;");
        for (int s = 0; s < 4; s++) {
            DUE.due("broad " + s, x.street(s, 3), 1 - s % 2);
        }
        DUE.due("two of them", x.count(3), 2);
    }

    private static void manyStreets() {
        says("a STREET more (14 at most;");
        OneWayTillNoon x = Due.townOf(NINE_STREETS, FOUR_STREETS);
        DUE.due("thirteen", x.count(1), 13);
        DUE.due("a fourteenth and a fifteenth", Due.told(x, "k9;s01,1;s01,1;"), -2009);
        DUE.due("thirteen stay", x.count(1), 13);
        DUE.due("a fourteenth", Due.told(x, "s10,7b;"), 1);
        DUE.due("fourteen", x.count(1), 14);
        DUE.due("is the last", x.street(13, 2), 7);
        DUE.due("a fifteenth", Due.told(x, "s01,1;"), -2000);
        DUE.due("fourteen stay", x.count(1), 14);
        says("there may be several between two);");
        OneWayTillNoon y = new OneWayTillNoon();
        DUE.due("three between 0 and 1", Due.told(y, "s01,5;s01,5;s10,9;"), 3);
        DUE.due("are three", y.count(1), 3);
        DUE.due("the first", y.street(0, 2), 5);
        DUE.due("the second", y.street(1, 2), 5);
        DUE.due("the third goes the other way", y.street(2, 0), 1);
    }

    private static void errandEnds() {
        says("\"e\" two digits (FROM, TO) \"@\"");
        OneWayTillNoon x = Due.townOf("k10;e90@0,1;e09@0,1;e58@0,1;");
        int[] ends = {9, 0, 0, 9, 5, 8};
        for (int i = 0; i < ends.length; i++) {
            DUE.due("end " + i, x.errand(i / 2, i % 2), ends[i]);
        }
        dueNew("e@0,1;", -1001, "e0@0,1;", -1002, "e012@0,1;", -1003, "ea0@0,1;", -1001, "e0a@0,1;", -1002, "e01;", -1003,
                "e01,0,1;", -1003, "E01@0,1;", -1000, "e04@0,1;", -2000, "e40@0,1;", -2000);
    }

    private static void errandAts() {
        says("AT (1 to 4 digits, 0 .. 1439) \",\"");
        dueNew("e01@0,1;", 1, "e01@1439,1;", 1, "e01@1440,1;", -2000, "e01@9999,1;", -2000, "e01@,1;", -1004,
                "e01@00000,1;", -1008, "e01@14390,1;", -1008, "e01@1;", -1005, "e01@1@1;", -1005, "e01@-1,1;", -1004);
        OneWayTillNoon x = Due.townOf("e01@0,1;e01@7,1;e01@07,1;e01@0007,1;e01@720,1;", "e01@1439,1;");
        int[] ats = {0, 7, 7, 7, 720, 1439};
        for (int e = 0; e < ats.length; e++) {
            DUE.due("at of " + e, x.errand(e, 2), ats[e]);
        }
    }

    private static void errandWorths() {
        says("WORTH (a digit, 1 .. 9):");
        dueNew("e01@0,1;", 1, "e01@0,9;", 1, "e01@0,0;", -2000, "e01@0,;", -1006, "e01@0,10;", -1007, "e01@0,01;", -1007,
                "e01@0;", -1005, "e01@0,a;", -1006);
        OneWayTillNoon x = Due.townOf("e01@0,1;e01@0,9;e01@0,5;");
        int[] worths = {1, 9, 5};
        for (int e = 0; e < worths.length; e++) {
            DUE.due("worth of " + e, x.errand(e, 3), worths[e]);
        }
    }

    private static void manyErrands() {
        says("an ERRAND more (8 at most);");
        OneWayTillNoon x = Due.townOf(EIGHT_ERRANDS);
        DUE.due("seven", x.count(2), 7);
        DUE.due("an eighth and a ninth", Due.told(x, "k9;e01@0,1;e01@0,1;"), -2011);
        DUE.due("seven stay", x.count(2), 7);
        DUE.due("an eighth", Due.told(x, "e10@9,7;"), 1);
        DUE.due("eight", x.count(2), 8);
        DUE.due("is the last", x.errand(7, 3), 7);
        DUE.due("a ninth", Due.told(x, "e01@0,1;"), -2000);
        DUE.due("eight stay", x.count(2), 8);
    }

    private static void mustStreets() {
        says("\"m\" STREET (1 or 2 digits) \",\"");
        OneWayTillNoon x = Due.townOf(NINE_STREETS, FOUR_STREETS, "s01,1;");
        DUE.due("the last one", Due.told(x, "m13,1;"), 1);
        DUE.due("its must", x.street(13, 4), 1);
        DUE.due("1 or 2 digits", Due.told(x, "m9,0;m08,1;"), 2);
        DUE.due("of one digit", x.street(9, 4), 0);
        DUE.due("of two", x.street(8, 4), 1);
        DUE.due("one that is not there", Due.told(x, "m14,1;"), -2000);
        DUE.due("by far not there", Due.told(x, "m99,1;"), -2000);
        dueNew("m,1;", -1001, "m001,1;", -1003, "m1;", -1002, "m1.1;", -1002, "M0,1;", -1000, "ma,1;", -1001, "m0,0;", -2000);
    }

    private static void mustKinds() {
        says("0 or 1: a MUST:");
        dueNew("s01,1;m0,0;", 2, "s01,1;m0,1;", 2, "s01,1;m0,3;", -2006, "s01,1;m0,9;", -2006, "m0,;", -1003, "m0,10;", -1004,
                "m0,01;", -1004, "m0,a;", -1003);
        OneWayTillNoon x = Due.townOf("s01,1;s01,1;s01,1;m0,0;m2,1;");
        DUE.due("0", x.street(0, 4), 0);
        DUE.due("none", x.street(1, 4), 2);
        DUE.due("1", x.street(2, 4), 1);
        DUE.due("two of them", x.count(4), 2);
        says("it must point so");
        OneWayTillNoon y = Due.townOf("k2;s01,1;s10,1;m0,1;");
        DUE.due("the one that points so", y.best(), 1);
        DUE.due("it does not yet", y.judge(), 0);
        y.point(1);
        DUE.due("it does", y.judge() == 0 ? 1 : 0, 0);
        says("(told again it takes the place;");
        DUE.due("told again", Due.told(x, "m0,1;m2,1;"), 2);
        DUE.due("in its place", x.street(0, 4), 1);
        DUE.due("still two", x.count(4), 2);
        DUE.due("twice in a text", Due.told(x, "m0,1;m0,0;"), 2);
        DUE.due("the later one", x.street(0, 4), 0);
        says("2: it need not).");
        DUE.due("need not", Due.told(x, "m0,2;m1,2;"), 2);
        DUE.due("it has none", x.street(0, 4), 2);
        DUE.due("nor has one that had none", x.street(1, 4), 2);
        DUE.due("one is left", x.count(4), 1);
        DUE.due("of the other one", Due.told(y, "m0,2;"), 1);
        DUE.due("then it need not", y.best(), 0);
    }

    private static void oneStatement() {
        says("At least one STATEMENT.");
        dueNew("", -1000, ";", -1000, " ", -1000, "k4;", 1);
    }

    private static void writtenWrong() {
        says("FAULT: kind 1 the place of the first byte with which no TOWN can go on");
        dueNew("x", -1000, "k4;x", -1003, "kk", -1001, "s01,1;e01@1,1;m0,1;k4;q", -1022, "" + (char) 0, -1000,
                "k" + (char) 255, -1001, "k4;" + (char) 128, -1003, "b;", -1000,
                "k4;".repeat(21) + "x", -1063);
        says("(the end, if something lacks): -1000 less the place;");
        String[] whole = {"k10;", "s01,60b;", "e01@1439,9;", "m00,1;"};
        for (String text : whole) {
            for (int end = 0; end < text.length(); end++) {
                DUE.due("\"" + text.substring(0, end) + "\" alone", Due.toldNew(text.substring(0, end)), -1000 - end);
                if (end > 0) {
                    DUE.due("\"k4;" + text.substring(0, end), Due.toldNew("k4;" + text.substring(0, end)), -1003 - end);
                }
            }
        }
        dueNew("k4;".repeat(21) + "k", -1064, "k4;".repeat(21), 21);
    }

    private static void saidWrong() {
        says("else kind 2 the place of the letter of the first STATEMENT that, behind all ahead of it in the text, "
                + "is not as it must be");
        dueNew("k1;x", -1003, "k1;s00,1;", -2000, "k4;k1;s00,1;", -2003, "k5;s04,1;k5;", 3, "s04,1;k5;", -2000,
                "k4;e45@0,1;k6;", -2003, "k9;k8;k1;k7;", -2006, "s01,1;s01,1;m2,0;s01,1;", -2012, "k4;k4;k4;s00,9", -1014);
        says("(a number out of range,");
        dueNew("k0;", -2000, "k1;", -2000, "k11;", -2000, "k99;", -2000, "s01,0;", -2000, "s01,61;", -2000,
                "e01@1440,1;", -2000, "e01@0,0;", -2000, "s01,1;m0,3;", -2006);
        says("a CORNER or STREET that is not there ahead of it,");
        dueNew("s04,1;", -2000, "s40,1;", -2000, "e04@0,1;", -2000, "e40@0,1;", -2000, "k3;s23,1;", -2003, "k3;s12,1;", 2,
                "m0,1;", -2000, "m0,1;s01,1;", -2000, "s01,1;m0,1;m1,1;", -2011, "s01,1;m1,2;", -2006);
        says("one CORNER twice,");
        dueNew("s00,1;", -2000, "s33,1;", -2000, "e00@0,1;", -2000, "e33@0,1;", -2000, "s01,1;s11,1;", -2006);
    }

    private static void saidWrongFirst() {
        says("no room for more): -2000 less the place.");
        OneWayTillNoon x = Due.townOf(NINE_STREETS, FOUR_STREETS, "s01,1;", EIGHT_ERRANDS, "e01@0,1;");
        DUE.due("no room for a street", Due.told(x, "k4;s01,1;"), -2003);
        DUE.due("no room for an errand", Due.told(x, "k4;m0,1;e01@0,1;"), -2008);
        DUE.due("the first of both", Due.told(x, "e01@0,1;s01,1;"), -2000);
        DUE.due("the must is not there", x.street(0, 4), 2);
        DUE.due("how it is written is ahead", Due.told(x, "s01,1;e01@0,1"), -1013);
        DUE.due("room for all that is no more", Due.told(x, "k4;m13,0;"), 2);
    }

    private static void allOrNothing() {
        says("Without FAULT all of it comes,");
        OneWayTillNoon x = new OneWayTillNoon();
        DUE.due("six", Due.told(x, "k5;s01,7;s14,8b;e40@9,3;m1,1;k6;"), 6);
        int[] counts = {6, 2, 1, 1, 1};
        for (int what = 0; what < counts.length; what++) {
            DUE.due("count " + what, x.count(what), counts[what]);
        }
        DUE.due("behind what was there", Due.told(x, "s52,9;"), 1);
        DUE.due("as number 2", x.street(2, 2), 9);
        DUE.due("what was there stays", x.street(1, 2), 8);
        says("with one nothing.");
        String ahead = Twins.answers(Twins.made());
        String[] faulty = {"k9;s02,7;s14,8b;e40@9,3;m1,1;m0,2;k1;", "k9;s02,7b;e40@9,3;m1,2;x", "s01,1;s01,1;m9,1;", "k9;k"};
        for (String text : faulty) {
            OneWayTillNoon y = Twins.madeWithoutTape();
            DUE.due("a fault in " + text, Due.told(y, text) < 0 ? 1 : 0, 1);
            Due.fed(y, Twins.TAPE);
            DUE.same("all behind " + text, Twins.answers(y), ahead);
        }
    }

    private static void noughtsAhead() {
        says("Numbers may begin with 0.");
        OneWayTillNoon x = new OneWayTillNoon();
        DUE.due("in all places", Due.told(x, "k09;s01,05;s01,09b;e01@0035,1;m01,1;"), 5);
        DUE.due("corners", x.count(0), 9);
        DUE.due("minutes", x.street(0, 2), 5);
        DUE.due("minutes of a broad one", x.street(1, 2), 9);
        DUE.due("at", x.errand(0, 2), 35);
        DUE.due("must", x.street(1, 4), 1);
        DUE.due("at 0", Due.told(x, "e01@00,1;e01@000,1;e01@0000,1;m00,0;"), 4);
    }
}
