/** Promises 1 to 5: a new object, feed, town, street, errand. */
final class TownTest {
    private static final Due DUE = new Due();

    private TownTest() { }

    public static void main(String[] args) {
        newObject();
        tape();
        statements();
        writtenWrong();
        saidWrong();
        faultsLeaveAll();
        streetsAndErrands();
        DUE.end();
    }

    private static void newObject() {
        OneWayTillNoon x = new OneWayTillNoon();
        DUE.due("new: corners", x.count(0), 4);
        for (int what = 1; what <= 7; what++) {
            DUE.due("new: count " + what, x.count(what), 0);
        }
        for (int what = 11; what <= 16; what++) {
            DUE.due("new: refusals " + what, x.count(what), 0);
        }
        DUE.due("new: noon", x.set(0, 1), 720);
        DUE.due("new: rule", x.set(1, 1), 0);
        DUE.due("new: every", x.set(2, 10), 240);
        DUE.due("new: day", x.set(3, 1), 0);
        DUE.due("new: pointing", x.point(0), 0);
    }

    private static void tape() {
        OneWayTillNoon x = new OneWayTillNoon();
        DUE.due("feed none", x.feed(0, 1), -4);
        DUE.due("feed below", x.feed(Integer.MIN_VALUE, 1), -4);
        DUE.due("feed nine", x.feed(9, 1), -6);
        DUE.due("feed many", x.feed(Integer.MAX_VALUE, 1), -6);
        DUE.due("feed refused keeps the tape", x.count(7), 0);
        DUE.due("feed takes the lowest bytes alone", x.feed(3, Due.packed("k7;k99;")), 3);
        DUE.due("and in their order", x.town(), 1);
        DUE.due("k7", x.count(0), 7);
        for (int i = 1; i <= 7; i++) {
            DUE.due("feed " + 8 * i, x.feed(8, -1L), 8 * i);
        }
        DUE.due("feed to 63", x.feed(7, 0), 63);
        DUE.due("feed above 64", x.feed(2, 0), -6);
        DUE.due("feed to 64", x.feed(1, 0), 64);
        DUE.due("feed on a full tape", x.feed(1, 0), -6);
        DUE.due("feed below on a full tape", x.feed(0, 0), -4);
        DUE.due("full tape", x.count(7), 64);
        DUE.due("bytes of 255", x.town(), -1000);
        DUE.due("the tape has none", x.count(7), 0);
    }

    private static void statements() {
        OneWayTillNoon x = new OneWayTillNoon();
        DUE.due("several", Due.told(x, "k10;s98,60b;s09,1;e90@1439,9;m1,1;m00,0;"), 6);
        DUE.due("corners", x.count(0), 10);
        DUE.due("streets", x.count(1), 2);
        DUE.due("broad", x.count(3), 1);
        DUE.due("musts", x.count(4), 2);
        DUE.due("a must told again, and one that need not", Due.told(x, "m1,0;m0,2;"), 2);
        DUE.due("takes the place", x.street(1, 4), 0);
        DUE.due("need not", x.street(0, 4), 2);
        DUE.due("one must", x.count(4), 1);
        DUE.due("fourteen streets", Due.told(x, "s01,1;s01,1;s01,1;s01,1;s01,1;s01,1;s01,1;s01,1;s01,1;"), 9);
        DUE.due("and the last three", Due.told(x, "s01,1;s01,1;s10,1;"), 3);
        DUE.due("no fifteenth", Due.told(x, "s01,1;"), -2000);
        DUE.due("a must of the last", Due.told(x, "m13,1;m14,1;"), -2006);
        DUE.due("seven errands more", Due.told(x, "e01@0,1;e01@0,1;e01@0,1;e01@0,1;e01@0,1;e01@0,1;e01@0,1;"), 7);
        DUE.due("no ninth", Due.told(x, "m0,2;e01@0,1;"), -2005);
        DUE.due("eight errands", x.count(2), 8);
        DUE.due("sixty-four bytes", Due.told(Due.townOf(), "k4;k4;k4;k4;k4;k4;k4;k4;k4;k4;k4;k4;k4;k4;k4;k4;k4;k4;k4;k4;k04;"), 21);
    }

    private static void writtenWrong() {
        String[] texts = {"", "x", "k", "kx;", "k;", "k4", "k4x", "k044;", "k4;;", "k4; ", "K4;", "s", "s0", "s01", "s01;", "s01,",
            "s01,;", "s01,123;", "s01,1", "s01,1c;", "s01,1bb;", "s01,1b", "s0,1;", "s012,1;", "e", "e01", "e01,", "e01@", "e01@,1;",
            "e01@12345,1;", "e01@1", "e01@1;", "e01@1,", "e01@1,;", "e01@1,12;", "e01@1,1", "m", "m;", "m0", "m0;", "m0,", "m0,;",
            "m000,1;", "m0,12;", "m0,1", "k4;s01,1", "b;", "s01,-1;", "s" + (char) 200 + "1,1;"};
        int[] places = {0, 0, 1, 1, 1, 2, 2, 3, 3, 3, 0, 1, 2, 3, 3, 4,
            4, 6, 5, 5, 6, 6, 2, 3, 1, 3, 3, 4, 4,
            8, 5, 5, 6, 6, 7, 7, 1, 1, 2, 2, 3, 3,
            3, 4, 4, 8, 0, 4, 1};
        for (int i = 0; i < texts.length; i++) {
            OneWayTillNoon x = new OneWayTillNoon();
            DUE.due("written wrong: " + texts[i], Due.told(x, texts[i]), -1000 - places[i]);
            DUE.due("the tape has none after " + texts[i], x.count(7), 0);
            DUE.due("nothing is counted after " + texts[i], x.count(11) + x.count(14) + x.count(16), 0);
        }
        DUE.due("how it is written is ahead of what it says", Due.told(new OneWayTillNoon(), "k1;s00,1;x"), -1009);
        DUE.due("a full tape that lacks its end",
                Due.told(new OneWayTillNoon(), "k4;k4;k4;k4;k4;k4;k4;k4;k4;k4;k4;k4;k4;k4;k4;k4;k4;k4;k4;k4;k4;k"), -1064);
    }

    private static void saidWrong() {
        String[] texts = {"k1;", "k0;", "k00;", "k11;", "k99;", "s00,1;", "s04,1;", "s40,1;", "s01,0;", "s01,00;", "s01,61;",
            "e00@0,1;", "e04@0,1;", "e40@0,1;", "e01@1440,1;", "e01@9999,1;", "e01@0,0;", "m0,0;", "m00,2;"};
        for (String text : texts) {
            OneWayTillNoon x = new OneWayTillNoon();
            DUE.due("said wrong: " + text, Due.told(x, text), -2000);
            DUE.due("said wrong, behind another: " + text, Due.told(x, "k4;" + text), -2003);
        }
        OneWayTillNoon x = new OneWayTillNoon();
        DUE.due("a must of no kind", Due.told(x, "s01,1;m0,3;"), -2006);
        DUE.due("a street told only behind", Due.told(x, "m0,1;s01,1;"), -2000);
        DUE.due("a corner told only behind", Due.told(x, "s04,1;k5;"), -2000);
        DUE.due("a corner told ahead", Due.told(x, "k5;s04,1;"), 2);
        DUE.due("fewer than a street tells of", Due.told(x, "k4;"), -2000);
        DUE.due("an errand tells of corners, too", Due.told(x, "k8;e67@0,1;k7;"), -2011);
        DUE.due("as many as are told of", Due.told(x, "k8;e67@0,1;k8;"), 3);
        DUE.due("the first of several", Due.told(x, "k8;k1;k0;"), -2003);
    }

    private static void faultsLeaveAll() {
        OneWayTillNoon x = Due.townOf("k3;s01,10;");
        DUE.due("a fault at the end", Due.told(x, "k9;s12,5b;e02@7,3;m0,1;k1;"), -2023);
        DUE.due("corners stay", x.count(0), 3);
        DUE.due("streets stay", x.count(1), 1);
        DUE.due("errands stay", x.count(2), 0);
        DUE.due("broad ones stay", x.count(3), 0);
        DUE.due("musts stay", x.count(4), 0);
        DUE.due("a text more", Due.told(x, "s12,5b;e02@7,3;"), 2);
        DUE.due("comes behind", x.count(1), 2);
    }

    private static void streetsAndErrands() {
        OneWayTillNoon x = Due.townOf("s23,07b;s01,60;e31@0720,4;m1,1;");
        long[] first = {2, 3, 7, 1, 2, 0};
        long[] second = {0, 1, 60, 0, 1, 1};
        long[] errand = {3, 1, 720, 4};
        DUE.due("shut", x.shut(1, true), 1);
        for (int what = 0; what < 6; what++) {
            DUE.due("street 0 what " + what, x.street(0, what), first[what]);
            DUE.due("street 1 what " + what, x.street(1, what), second[what]);
        }
        for (int what = 0; what < 4; what++) {
            DUE.due("errand 0 what " + what, x.errand(0, what), errand[what]);
        }
        DUE.due("no street", x.street(2, 0), -1);
        DUE.due("no street below", x.street(-1, 9), -1);
        DUE.due("street other", x.street(0, 6), -2);
        DUE.due("street other below", x.street(0, -1), -2);
        DUE.due("no errand", x.errand(1, 9), -1);
        DUE.due("no errand below", x.errand(-1, 0), -1);
        DUE.due("errand other", x.errand(0, 4), -2);
        DUE.due("errand other below", x.errand(0, -1), -2);
        DUE.due("refusals -1", x.count(11), 4);
        DUE.due("refusals -2", x.count(12), 4);
    }
}
