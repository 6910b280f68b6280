import java.math.BigInteger;

/** Each sentence of promises 24 to 36 that names a boundary, a test each, named by its promise. */
public final class Boundaries24To36Test extends Due {
    /** Each of twelve letters, and by PLAIN and bound 8 each by the one before it, down to depth 8. */
    private static final String[] NINE_DEEP = {"v..aabbccddeeff;v..faaabbccddee;v..ddfaaabbccdd;",
        "v..baddfaaabbcc;v..cfbaddfaaabb;", "v..hfcfbaddfaaa;v..abhfcfbaddfa;v..hbabhfcfbadd;v..hehbabhfcfba;", "d8;r;"};
    /** Each is the first parent of the next one. */
    private static final String LINE = "v..a;v0.a;v1.a;v2.a;v3.a;v4.a;v5.a;v6.a;v7.a;v8.a;";
    /** 0, 1 of 0 and 2 of 1, 3, and 4 of 0 and of 3; 1 and 2 are gone. */
    private static final String TWO_GONE = "v..a;v0.b;v1.c;v..d;v03e;h04;c;";

    public static void main(String[] args) throws Exception {
        System.exit(allHold(Boundaries24To36Test.class, 24, 36) ? 0 : 1);
    }

    // ---- promise 24 ----

    private static void fetchIs(ArchiveOfDeltas x, int h, int has, int sent, int cost, int whole) {
        due("sent of " + h + " to " + has, x.fetch(h, has, 0), sent);
        due("cost of " + h + " to " + has, x.fetch(h, has, 1), cost);
        due("sent whole of " + h + " to " + has, x.fetch(h, has, 2), whole);
    }

    static void p24_aHeadThatIsNone() {
        ArchiveOfDeltas x = told(PACKED);
        fetchIs(x, 2, 0, 0, 0, 0);
        fetchIs(x, 3, 1023, 0, 0, 0);
        refused(x, 0, 0, 0, 0, 0, 0);
        refuses("below 0 of none", y -> y.fetch(2, -1, 0), -4);
        refuses("above 1023 of none", y -> y.fetch(2, 1024, 0), -6);
        refuses("what 3 of none", y -> y.fetch(2, 0, 3), -2);
    }

    static void p24_headsZeroToThree() {
        ArchiveOfDeltas x = told("v..a;v..b;v..c;v..d;h03;h12;h21;h30;");
        for (int h = 0; h <= 3; h++) {
            fetchIs(x, h, 0, 1 << 3 - h, 2, 0);
        }
        refuses("head -1", y -> y.fetch(-1, 0, 0), -1);
        refuses("head 4", y -> y.fetch(4, 0, 0), -1);
        refuses("the least", y -> y.fetch(LEAST, 0, 0), -1);
        refuses("the greatest", y -> y.fetch(GREATEST, 0, 0), -1);
    }

    static void p24_hasZeroTo1023() {
        ArchiveOfDeltas x = told(LINE, "h09;");
        fetchIs(x, 0, 0, 1023, 20, 0);
        fetchIs(x, 0, 1, 1022, 18, 0);
        fetchIs(x, 0, 256, 512, 2, 0);
        fetchIs(x, 0, 512, 0, 0, 0);
        fetchIs(x, 0, 1023, 0, 0, 0);
        refuses("has -1", y -> y.fetch(0, -1, 0), -4);
        refuses("has 1024", y -> y.fetch(0, 1024, 0), -6);
        refuses("the least", y -> y.fetch(0, LEAST, 0), -4);
        refuses("the greatest", y -> y.fetch(0, GREATEST, 0), -6);
    }

    static void p24_whatZeroToTwo() {
        fetchIs(told(PACKED), 0, 0, 15, 22, 0);
        refuses("what -1", y -> y.fetch(0, 0, -1), -2);
        refuses("what 3", y -> y.fetch(0, 0, 3), -2);
        refuses("the least", y -> y.fetch(0, 0, LEAST), -2);
    }

    static void p24_twoRefusalsAtOnce() {
        refuses("head and below: nobody", y -> y.fetch(4, -1, 0), -1);
        refuses("head and above: nobody", y -> y.fetch(-1, 1024, 0), -1);
        refuses("head and what: nobody", y -> y.fetch(4, 0, 3), -1);
        refuses("below and what: below", y -> y.fetch(0, -1, 3), -4);
        refuses("above and what: room", y -> y.fetch(0, 1024, -1), -6);
        refuses("all of them: nobody", y -> y.fetch(4, -1, 3), -1);
    }

    static void p24_numbersThatHaveNotComeDontCount() {
        ArchiveOfDeltas x = told(PACKED);
        fetchIs(x, 0, 1023 - 31, 15, 22, 0);
        fetchIs(x, 0, 512, 15, 22, 0);
        fetchIs(x, 0, 512 + 8, 0, 0, 0);
    }

    static void p24_allReachedFromTheseIsHad() {
        ArchiveOfDeltas x = told(PACKED);
        // who has 2 has 1 and 0
        fetchIs(x, 0, 4, 8, 3, 0);
        fetchIs(x, 0, 7, 8, 3, 0);
        fetchIs(x, 1, 8, 0, 0, 0);
        fetchIs(x, 1, 16, 7, 19, 0);
    }

    static void p24_hadThoughGone() {
        ArchiveOfDeltas x = told(TWO_GONE);
        due("1 and 2 are gone", x.count(1), 25);
        fetchIs(x, 0, 0, 25, 6, 0);
        // 2 is gone, but who has it has 0
        fetchIs(x, 0, 4, 24, 4, 0);
        fetchIs(x, 0, 2, 24, 4, 0);
        fetchIs(x, 0, 4 + 8, 16, 2, 0);
    }

    static void p24_sentWholeIfTheBaseIsNeitherSentNorHad() {
        // NEWEST: 0 is stored by 1, that is no parent of it
        ArchiveOfDeltas x = told("v..aabb;v..aabb;k20;r;h00;");
        due("by 1", x.version(0, 3), 1);
        fetchIs(x, 0, 0, 1, 5, 1);
        fetchIs(x, 0, 2, 1, 3, 0);
        fetchIs(x, 0, 1, 0, 0, 0);
        x.heads(0, 1);
        // a whole one is sent as it is stored
        fetchIs(x, 0, 0, 2, 5, 0);
        fetchIs(x, 0, 1, 2, 5, 0);
    }

    static void p24_sentAsStoredIfTheBaseIsSentToo() {
        ArchiveOfDeltas x = told("v..aabb;v0.aabb;v1.aabb;h02;k20;r;");
        bases("by the newest", x, 2, 2, -9);
        fetchIs(x, 0, 0, 7, 5 + 3 + 3, 0);
        fetchIs(x, 0, 1, 6, 5 + 3, 0);
        fetchIs(x, 0, 2, 4, 5, 0);
    }

    static void p24_severalSentWhole() {
        ArchiveOfDeltas x = told("v..aabbc;v..aabbd;v1.aabbe;v2.aabbf;h03;r;");
        bases("by 0", x, -9, 0, 0, 0);
        fetchIs(x, 0, 0, 14, 18, 3);
        fetchIs(x, 0, 1, 14, 12, 0);
        fetchIs(x, 0, 2, 12, 12, 2);
    }

    // ---- promise 25 ----

    static void p25_noneAndAll() {
        due("of nothing", new ArchiveOfDeltas().wrong(), 0);
        ArchiveOfDeltas x = told(FULL);
        due("none", x.wrong(), 0);
        for (int v = 0; v <= 9; v++) {
            x.damages(v, 0, 1);
        }
        due("all ten", x.wrong(), 1023);
        x.damages(9, 0, 0);
        due("but the last", x.wrong(), 511);
    }

    static void p25_thereAlone() {
        ArchiveOfDeltas x = told("v..a;v..a;h01;x000b;");
        due("0", x.wrong(), 1);
        x.collect();
        due("it is gone", x.wrong(), 0);
    }

    static void p25_byWhatTheStepsMakeOfIt() {
        ArchiveOfDeltas x = told("v..aabbcc;v..aabbhh;r;");
        bases("by 0", x, -9, 0);
        x.damages(0, 5, 7);
        due("the last letter is not in it", x.wrong(), 1);
        x.damages(0, 0, 7);
        due("the first one is", x.wrong(), 3);
    }

    static void p25_soundByHashAlone() {
        due("baee for aaaa", told("v..aaaa;", "x000b;x002e;x003e;").wrong(), 0);
        due("baef for aaaa", told("v..aaaa;", "x000b;x002e;x003f;").wrong(), 1);
    }

    // ---- promise 26 ----

    static void p26_itselfToo() {
        ArchiveOfDeltas x = told("v..a;v0.a;");
        due("by 0, a parent, no base", x.hurt(0), 1);
        due("by 1", x.hurt(1), 2);
    }

    static void p26_nineInAChain() {
        ArchiveOfDeltas x = told(NINE_DEEP);
        due("by the first", x.hurt(0), 511);
        due("by the fifth", x.hurt(4), 511 - 15);
        due("by the last", x.hurt(8), 256);
    }

    static void p26_soundOnesAreHurtToo() {
        ArchiveOfDeltas x = told(PACKED);
        due("by 0", x.hurt(0), 15);
        x.damages(0, 0, 7);
        due("by 0", x.hurt(0), 15);
        due("by 4", x.hurt(4), 16);
    }

    static void p26_noSuchVersion() {
        refuses("-1", y -> y.hurt(-1), -1);
        refuses("the next number", y -> y.hurt(5), -1);
        refuses("the least", y -> y.hurt(LEAST), -1);
        refuses("the greatest", y -> y.hurt(GREATEST), -1);
        refuses(ONE_GONE, "one gone", y -> y.hurt(0), -1);
        refuses("", "none there", y -> y.hurt(0), -1);
    }

    static void p26_thereAlone() {
        ArchiveOfDeltas x = told("v..aabb;v..aabb;v..aabb;h00;h12;r;");
        due("by 0", x.hurt(0), 7);
        x.collect();
        due("1 is gone", x.hurt(0), 5);
    }

    // ---- promise 27 ----

    private static void lostIs(ArchiveOfDeltas x, int h, int t, long above, long below) {
        due("above, " + h + ", " + t, x.lost(h, t, 0), above);
        due("below, " + h + ", " + t, x.lost(h, t, 1), below);
    }

    static void p27_oddsTwoToTwenty() {
        ArchiveOfDeltas x = told(PACKED);
        lostIs(x, 0, 2, 1, 4);
        lostIs(x, 0, 20, 361, 400);
        refuses("odds 1", y -> y.lost(0, 1, 0), -4);
        refuses("odds 0", y -> y.lost(0, 0, 0), -4);
        refuses("odds 21", y -> y.lost(0, 21, 0), -6);
        refuses("the least", y -> y.lost(0, LEAST, 0), -4);
        refuses("the greatest", y -> y.lost(0, GREATEST, 0), -6);
    }

    static void p27_versionFiveMaySixMayNot() {
        ArchiveOfDeltas x = told("v..a;v..a;v..a;v..a;v..a;v..a;v..a;h05;h16;");
        lostIs(x, 0, 3, 2, 3);
        lostIs(x, 1, 3, 1, 1);
        lostIs(x, 1, 20, 1, 1);
    }

    static void p27_sixAtMostAreNeeded() {
        ArchiveOfDeltas x = told(NINE_DEEP);
        int[] heads = {0, 4, 5, 8};
        for (int h = 0; h <= 3; h++) {
            x.heads(h, heads[h]);
        }
        lostIs(x, 0, 2, 1, 2);
        lostIs(x, 1, 2, 1, 32);
        lostIs(x, 2, 2, 1, 64);
        lostIs(x, 3, 2, 1, 64);
        lostIs(x, 3, 20, 47045881, 64000000);
    }

    static void p27_leastTerms() {
        ArchiveOfDeltas x = told("v..aabb;v..aabb;r;h01;h10;");
        lostIs(x, 0, 4, 9, 16);
        lostIs(x, 0, 10, 81, 100);
        lostIs(x, 1, 10, 9, 10);
        lostIs(x, 0, 9, 64, 81);
    }

    static void p27_aBaseThatWentIsNotNeeded() {
        ArchiveOfDeltas x = told("v..aabb;v..aabb;h01;r;");
        lostIs(x, 0, 2, 1, 4);
        x.collect();
        lostIs(x, 0, 2, 1, 2);
    }

    static void p27_partZeroAndOne() {
        refuses("part -1", y -> y.lost(0, 2, -1), -2);
        refuses("part 2", y -> y.lost(0, 2, 2), -2);
    }

    static void p27_headsZeroToThree() {
        ArchiveOfDeltas x = told("v..a;h30;");
        lostIs(x, 3, 7, 6, 7);
        refuses("head -1", y -> y.lost(-1, 2, 0), -1);
        refuses("head 4", y -> y.lost(4, 2, 0), -1);
        refuses("the greatest", y -> y.lost(GREATEST, 2, 0), -1);
    }

    static void p27_theHeadIsNone() {
        refuses("none", y -> y.lost(2, 2, 0), -3);
        refuses("", "none of a new object", y -> y.lost(0, 2, 0), -3);
    }

    static void p27_twoRefusalsAtOnce() {
        refuses("head and odds: nobody", y -> y.lost(4, 1, 0), -1);
        refuses("head and part: nobody", y -> y.lost(4, 2, 2), -1);
        refuses("none and below: state", y -> y.lost(2, 1, 0), -3);
        refuses("none and above: state", y -> y.lost(2, 21, 0), -3);
        refuses("none and part: state", y -> y.lost(2, 2, 2), -3);
        refuses("below and part: below", y -> y.lost(0, 1, 2), -4);
        refuses("above and part: room", y -> y.lost(0, 21, -1), -6);
    }

    static void p27_refusalsOfLongs() {
        ArchiveOfDeltas x = told(PACKED);
        due("nobody", x.lost(4, 2, 0), 4000000000000000001L);
        due("other", x.lost(0, 2, 2), 4000000000000000002L);
        due("state", x.lost(2, 2, 0), 4000000000000000003L);
        due("below", x.lost(0, 1, 0), 4000000000000000004L);
        due("room", x.lost(0, 21, 0), 4000000000000000006L);
        refused(x, 1, 1, 1, 1, 0, 1);
    }

    // ---- promise 28 ----

    private static void meanIs(long above, long below, String... texts) {
        ArchiveOfDeltas x = texts.length == 0 ? new ArchiveOfDeltas() : told(texts);
        due("above", x.mean(0), above);
        due("below", x.mean(1), below);
        refused(x, 0, 0, 0, 0, 0, 0);
    }

    static void p28_zeroByOneIfNothing() {
        meanIs(0, 1);
        meanIs(0, 1, FULL, "c;");
    }

    static void p28_leastTerms() {
        meanIs(27, 5, PACKED);
        meanIs(5, 2, "v..a;v..ab;");
        meanIs(5, 2, "v..a;v..ab;v..a;v..ab;");
        meanIs(3, 1, "v..a;v..ab;v..abc;");
        meanIs(13, 5, "v..a;v..ab;".repeat(4), "v..ab;v..ab;");
    }

    static void p28_oneAndTen() {
        meanIs(13, 1, "v..abcdefghabcd;");
        meanIs(2, 1, FULL);
    }

    static void p28_thereAlone() {
        meanIs(2, 1, "v..abc;" + ONE_GONE.replace("h01", "h02"));
    }

    static void p28_partZeroAndOne() {
        refuses("part -1", y -> y.mean(-1), -2);
        refuses("part 2", y -> y.mean(2), -2);
        refuses("", "part 2 of nothing", y -> y.mean(2), -2);
        due("told as", new ArchiveOfDeltas().mean(2), 4000000000000000002L);
        due("told as", new ArchiveOfDeltas().mean(LEAST), 4000000000000000002L);
    }

    // ---- promise 29 ----

    private static void rowIs(ArchiveOfDeltas x, int kinds, int figures, int... numbers) {
        rowOf(x, numbers);
        due("kinds", x.whatIs(0), kinds);
        due("figures", x.whatIs(1), figures);
        due("the row stays", x.count(6), numbers.length);
    }

    static void p29_ofNoneAllIsSo() {
        rowIs(new ArchiveOfDeltas(), 63, 1023);
        rowIs(told(PACKED), 63, 1023);
    }

    static void p29_tenIsWholeElevenIsNotThere() {
        rowIs(told("v..a;"), 63, 1023, 10);
        rowIs(told("v..a;"), 63, 1023, 10, 11);
        rowIs(told("v..a;"), 0, 0, 11);
        rowIs(told("v..a;"), 0, 0, 10, 10);
        rowIs(told("v..a;"), 0, 0, 12);
        rowIs(told("v..a;"), 0, 0, 99);
        rowIs(told("v..a;"), 0, 0, 0);
        rowIs(told(ONE_GONE), 63, 1023, 11, 10);
        rowIs(told(ONE_GONE), 0, 0, 10, 10);
        rowIs(new ArchiveOfDeltas(), 63, 1023, 11);
        rowIs(new ArchiveOfDeltas(), 0, 0, 10);
    }

    static void p29_aRowOfTwelve() {
        rowIs(new ArchiveOfDeltas(), 63, 1023, 11, 11, 11, 11, 11, 11, 11, 11, 11, 11, 11, 11);
        rowIs(new ArchiveOfDeltas(), 0, 0, 11, 11, 11, 11, 11, 11, 11, 11, 11, 11, 11, 10);
        rowIs(told(FULL), 63, 1023, 10, 10, 10, 10, 10, 10, 10, 10, 10, 10);
        rowIs(told(FULL), 63, 1023, 10, 10, 10, 10, 10, 10, 10, 10, 10, 10, 11, 11);
        rowIs(told(FULL), 0, 0, 10, 10, 10, 10, 10, 10, 10, 10, 10, 10, 10);
        rowIs(told(FULL), 0, 0, 10, 10, 10, 10, 10, 10, 10, 10, 10, 11);
    }

    static void p29_lessThanThereAreIsSo() {
        ArchiveOfDeltas x = told("v..aabb;v0.aabb;");
        // by PLAIN, LONGEST, THRIFT: 1 by 0; by NEWEST, KIN: 0 by 1; by WINDOW 0: none
        rowIs(x, 1 + 2 + 16, 1023, 10, 0);
        rowIs(x, 4 + 8, 0, 1);
        rowIs(x, 4 + 8, 0, 1, 10);
        rowIs(x, 32, 0, 10, 10);
        rowIs(x, 1 + 2 + 16 + 32, 1023, 10);
    }

    static void p29_figureAsItIsAndKindAsItIs() {
        // a delta saves 2 of 5: THRIFT by figures 0 and 1
        ArchiveOfDeltas x = told("v..aabb;v..aabb;k40;");
        rowIs(x, 1 + 2 + 16, 3, 10, 0);
        rowIs(x, 8 + 32, 1020, 10, 10);
        x.kind(4, 1);
        rowIs(x, 1 + 2 + 16 + 32, 3, 10, 0);
        x.kind(4, 2);
        rowIs(x, 1 + 2 + 32, 3, 10, 0);
        x.kind(5, 0);
        rowIs(x, 1 + 2 + 16, 1022, 10, 0);
        x.kind(5, 9);
        rowIs(x, 8 + 16, 1, 10, 10);
        x.kind(3, 9);
        rowIs(x, 8 + 16, 1023, 10, 10);
        due("nothing changes", x.kind(0, 0), 39);
    }

    static void p29_boundAsItIs() {
        ArchiveOfDeltas x = told("v..aabb;v..aabb;d0;");
        rowIs(x, 63, 1023, 10, 10);
        rowIs(x, 0, 0, 10, 0);
    }

    static void p29_behindARepackNotAsItIs() {
        ArchiveOfDeltas x = told(PACKED);
        x.kind(5, 0);
        rowIs(x, 32, 1, 10, 10, 10, 10, 10);
        due("stored as before", x.version(1, 3), 0);
    }

    static void p29_whatZeroAndOne() {
        refuses("what -1", y -> y.whatIs(-1), -2);
        refuses("what 2", y -> y.whatIs(2), -2);
        refuses("the greatest", y -> y.whatIs(GREATEST), -2);
    }

    // ---- promise 30 ----

    static void p30_numbersZeroTo99() {
        ArchiveOfDeltas x = new ArchiveOfDeltas();
        due("0", x.row(0), 1);
        due("99", x.row(99), 2);
        refuses("-1", y -> y.row(-1), -4);
        refuses("100", y -> y.row(100), -6);
        refuses("the least", y -> y.row(LEAST), -4);
        refuses("the greatest", y -> y.row(GREATEST), -6);
    }

    static void p30_twelveAndA13th() {
        ArchiveOfDeltas x = new ArchiveOfDeltas();
        for (int i = 1; i <= 12; i++) {
            due("a number", x.row(11), i);
        }
        due("a 13th", x.row(11), -6);
        due("in the row", x.count(6), 12);
        refused(x, 0, 0, 0, 0, 0, 1);
        due("as it was", x.whatIs(0), 63);
    }

    static void p30_twoRefusalsAtOnce() {
        ArchiveOfDeltas x = new ArchiveOfDeltas();
        rowOf(x, 1, 2, 3, 4, 5, 6, 7, 8, 9, 10, 11, 12);
        due("below and a 13th: below", x.row(-1), -4);
        due("above and a 13th: room, once", x.row(100), -6);
        refused(x, 0, 0, 0, 1, 0, 1);
    }

    static void p30_thereIsRoomAgain() {
        ArchiveOfDeltas x = told("v..a;");
        rowOf(x, 1, 2, 3, 4, 5, 6, 7, 8, 9, 10, 11, 12);
        due("cleared", x.clear(), 12);
        due("the first", x.row(0), 1);
        due("judged", x.judge(0), -9);
        due("the first", x.row(0), 1);
    }

    // ---- promise 31 ----

    private static void judged(String letters, int due, int... numbers) {
        ArchiveOfDeltas x = told("v..a;v.." + letters + ";");
        rowOf(x, numbers);
        due("judged of " + letters, x.judge(1), due);
        due("the row has none then", x.count(6), 0);
        refused(x, 0, 0, 0, 0, 0, 0);
    }

    static void p31_allIsSo() {
        judged("a", -9, 0);
        judged("h", -9, 7);
        judged("abcdefghabcd", -9, 0, 1, 2, 3, 4, 5, 6, 7, 0, 1, 2, 3);
    }

    static void p31_theEmptyRowIsTooFew() {
        judged("a", 0);
        judged("abcdefghabcd", 0);
    }

    static void p31_tooFew() {
        judged("ab", 1, 0);
        judged("abcdefghabcd", 11, 0, 1, 2, 3, 4, 5, 6, 7, 0, 1, 2);
    }

    static void p31_oneTooMany() {
        judged("a", 1, 0, 0);
        judged("a", 1, 0, 1, 2, 3);
        judged("abcdefghabc", 11, 0, 1, 2, 3, 4, 5, 6, 7, 0, 1, 2, 3);
    }

    static void p31_theFirstThatIsNotSo() {
        judged("a", 0, 1);
        judged("abc", 0, 7, 7, 7);
        judged("abc", 1, 0, 8, 2);
        judged("abc", 2, 0, 1, 99);
        judged("abcdefghabcd", 11, 0, 1, 2, 3, 4, 5, 6, 7, 0, 1, 2, 4);
        judged("abc", 1, 0, 2);
        judged("abc", 1, 0, 0, 0, 0, 0, 0);
    }

    static void p31_noSuchVersionTheRowStays() {
        refuses("-1", y -> y.judge(-1), -1);
        refuses("the next number", y -> y.judge(5), -1);
        refuses("the greatest", y -> y.judge(GREATEST), -1);
        refuses(ONE_GONE, "one gone", y -> y.judge(0), -1);
        ArchiveOfDeltas x = told("v..ab;");
        rowOf(x, 0, 1);
        due("nobody", x.judge(1), -1);
        due("then all is so", x.judge(0), -9);
        due("then none is told", x.judge(0), 0);
    }

    // ---- promise 32 ----

    static void p32_noneOneAndTwelve() {
        ArchiveOfDeltas x = new ArchiveOfDeltas();
        due("none", x.clear(), 0);
        x.row(99);
        due("one", x.clear(), 1);
        rowOf(x, 1, 2, 3, 4, 5, 6, 7, 8, 9, 10, 11, 12);
        due("twelve", x.clear(), 12);
        due("none", x.clear(), 0);
        due("in the row", x.count(6), 0);
        refused(x, 0, 0, 0, 0, 0, 0);
    }

    static void p32_nothingElseChanges() {
        ArchiveOfDeltas x = told(PACKED);
        x.letter('r');
        x.row(1);
        String before = seen(x);
        x.clear();
        sees("clear", x, before);
        due("letters", x.count(7), 1);
        due("a refusal", x.row(100), -6);
        x.clear();
        due("refusals stay", x.count(16), 1);
    }

    // ---- promise 33 ----

    /** Lots once more, by the calls that they are told of, and by draws without an int's wrap-around. */
    private static void lotsAre(ArchiveOfDeltas x, int n, int seed) {
        BigInteger modulus = BigInteger.ONE.shiftLeft(32);
        BigInteger z = BigInteger.valueOf(seed).mod(modulus);
        long cost = 0;
        long whole = 0;
        x.image();
        for (int lot = 0; lot < n; lot++) {
            x.on();
            for (int i = 0; i < 6 && x.count(0) < 10; i++) {
                int there = x.count(1);
                if (there == 0) {
                    tell(x, "v..a;");
                    continue;
                }
                int[] drawn = new int[3];
                int[] below = {Integer.bitCount(there), 0, 8};
                int v = -1;
                for (int j = 0; j < 3; j++) {
                    z = z.multiply(BigInteger.valueOf(1664525)).add(BigInteger.valueOf(1013904223)).mod(modulus);
                    drawn[j] = z.mod(BigInteger.ONE.shiftLeft(31)).shiftRight(8).intValue() % below[j];
                    if (j == 0) {
                        for (int ahead = -1; ahead < drawn[0]; ahead += there >> v & 1) {
                            v++;
                        }
                        below[1] = x.version(v, 0);
                    }
                }
                x.edits(v, drawn[1], drawn[2]);
            }
            cost += x.repack();
            whole += Integer.bitCount(x.count(4));
        }
        x.on();
        due("cost of " + n + " lots by " + seed, x.lots(n, seed, 0), cost);
        due("whole of " + n + " lots by " + seed, x.lots(n, seed, 1), whole);
    }

    static void p33_seedsOfAnyInt() {
        for (int seed : new int[] {0, 1, -1, 7, LEAST, GREATEST, 1013904223, -1013904223, 123456789}) {
            lotsAre(told(PACKED), 2, seed);
            lotsAre(told("v..abcabcabcabc;v..ddd;v..abcabc;h00;h12;c;k31;d2;"), 3, seed);
            lotsAre(told("v..abcdefghabcd;v..a;k42;"), 3, seed);
        }
    }

    static void p33_theSignDoesNotCount() {
        ArchiveOfDeltas x = told("v..abcabcabcabc;v..abcdefgh;");
        for (int seed : new int[] {0, 1, 7, GREATEST, 1013904223, 99}) {
            due("seed " + seed, x.lots(20, seed ^ LEAST, 0), x.lots(20, seed, 0));
            due("seed " + seed, x.lots(20, seed ^ LEAST, 1), x.lots(20, seed, 1));
        }
    }

    static void p33_oneToTwenty() {
        ArchiveOfDeltas x = told("v..abcdefghabcd;d0;");
        due("one: seven of 13", x.lots(1, 5, 0), 91);
        due("one: seven whole", x.lots(1, 5, 1), 7);
        due("twenty", x.lots(20, 5, 0), 1820);
        due("twenty", x.lots(20, 5, 1), 140);
        refuses("0", y -> y.lots(0, 5, 0), -4);
        refuses("-1", y -> y.lots(-1, 5, 0), -4);
        refuses("21", y -> y.lots(21, 5, 0), -6);
        refuses("the least", y -> y.lots(LEAST, 5, 0), -4);
        refuses("the greatest", y -> y.lots(GREATEST, 5, 0), -6);
    }

    static void p33_whatZeroAndOne() {
        refuses("what -1", y -> y.lots(1, 5, -1), -2);
        refuses("what 2", y -> y.lots(1, 5, 2), -2);
        refuses("the greatest", y -> y.lots(20, 5, GREATEST), -2);
    }

    static void p33_twoRefusalsAtOnce() {
        refuses("below and what: below", y -> y.lots(0, 5, 2), -4);
        refuses("above and what: room", y -> y.lots(21, 5, -1), -6);
    }

    static void p33_noneThereAComesAlone() {
        ArchiveOfDeltas x = new ArchiveOfDeltas();
        due("six of one letter", x.lots(1, 0, 0), 12);
        due("six whole", x.lots(1, 0, 1), 6);
        due("each from now", x.lots(20, 0, 0), 240);
        lotsAre(x, 2, 3);
        // room for one: it is a, nothing is drawn
        x = told("v..abc;".repeat(9), "c;");
        due("one", x.lots(1, 0, 0), 2);
        due("one whole", x.lots(1, 0, 1), 1);
        x = told("v..abc;".repeat(8), "c;");
        due("two", x.lots(1, 0, 0), 4);
        lotsAre(x, 3, 17);
    }

    static void p33_ifThereIsRoom() {
        for (int came = 3; came <= 10; came++) {
            ArchiveOfDeltas x = told("v..a;".repeat(came));
            int due = Math.min(10, came + 6);
            due(came + " came", x.lots(1, 9, 1), due);
            due(came + " came", x.lots(1, 9, 0), 2 * due);
        }
        ArchiveOfDeltas x = told("v..a;".repeat(10), "h09;c;");
        due("no room, one there", x.lots(20, 9, 1), 20);
        x = told("v..a;".repeat(10), "c;");
        due("no room, none there", x.lots(20, 9, 0), 0);
        due("no room, none there", x.lots(20, 9, 1), 0);
    }

    static void p33_nothingChanges() {
        ArchiveOfDeltas x = told(FIVE);
        x.image();
        x.bound(3);
        String before = seen(x);
        x.lots(20, 1, 0);
        sees("lots", x, before);
        due("again the same", x.lots(3, 1, 0), x.lots(3, 1, 0));
        due("the image stays", x.on() + x.count(5), 5 + 4);
    }

    static void p33_theDrawsGoOnFromLotToLot() {
        ArchiveOfDeltas x = told("v..abcabcabcabc;v..abcdefgh;k00;");
        lotsAre(x, 4, 2);
        int first = x.lots(1, 2, 0);
        boolean alike = true;
        for (int n = 2; n <= 20; n++) {
            alike &= x.lots(n, 2, 0) == n * first;
        }
        due("all lots are as the first", alike ? 1 : 0, 0);
    }

    // ---- promise 34 ----

    static void p34_noneThereAndTen() {
        due("of a new object", new ArchiveOfDeltas().image(), 0);
        due("ten", told(FULL).image(), 10);
        due("there alone", told(ONE_GONE).image(), 1);
        due("none any more", told(FULL, "c;").image(), 0);
    }

    static void p34_theLaterOneCounts() {
        ArchiveOfDeltas x = told("v..a;");
        due("one", x.image(), 1);
        comes(x, "v..b;");
        due("two", x.image(), 2);
        comes(x, "v..c;c;");
        due("on", x.on(), 2);
        due("there", x.count(1), 3);
    }

    static void p34_itIsNotChangedByWhatComes() {
        ArchiveOfDeltas x = told(PACKED);
        String before = seen(x);
        x.image();
        x.damages(0, 0, 7);
        x.bound(1);
        x.kind(2, 0);
        x.repack();
        x.heads(0, 0);
        x.collect();
        x.edits(0, 0, 8);
        x.on();
        sees("on", x, before);
    }

    static void p34_nothingChangesByIt() {
        ArchiveOfDeltas x = told(PACKED);
        x.row(1);
        x.letter('r');
        String before = seen(x);
        x.image();
        sees("image", x, before);
        due("row", x.count(6), 1);
        due("letters", x.count(7), 1);
    }

    // ---- promise 35 ----

    static void p35_thereIsNone() {
        refuses("", "of a new object", y -> y.on(), -3);
        refuses("none", y -> y.on(), -3);
    }

    static void p35_anImageOfNothing() {
        ArchiveOfDeltas x = new ArchiveOfDeltas();
        x.image();
        comes(x, PACKED);
        x.bound(0);
        x.kind(1, 1);
        due("on", x.on(), 0);
        due("came", x.count(0), 0);
        due("bound", x.count(5), 4);
        due("kind", x.kind(0, 0), 0);
        due("head", x.heads(0, -1), -9);
        due("the first number again", x.version(0, 0), -1);
        comes(x, "v..h;");
        spelled(x, 0, "h");
    }

    static void p35_againAndAgain() {
        ArchiveOfDeltas x = told(PACKED);
        x.image();
        for (int i = 0; i < 3; i++) {
            x.heads(0, -1);
            x.heads(1, -1);
            due("all go", x.collect(), 5);
            due("on", x.on(), 5);
            due("there", x.count(1), 31);
        }
    }

    static void p35_rowLettersAndRefusalsGoOn() {
        ArchiveOfDeltas x = told(PACKED);
        x.row(1);
        x.letter('r');
        x.mean(2);
        x.image();
        x.row(2);
        x.letter(';');
        x.mean(2);
        due("on", x.on(), 5);
        due("row", x.count(6), 2);
        due("letters", x.count(7), 2);
        due("refusals", x.count(12), 2);
        due("an archive", x.archive(), 1);
    }

    static void p35_roomIsAsThen() {
        ArchiveOfDeltas x = told("v..a;".repeat(9));
        x.image();
        due("a tenth", x.edits(0, 0, 1), 9);
        due("an 11th", x.edits(0, 0, 1), -6);
        due("on", x.on(), 9);
        due("a tenth again", x.edits(0, 0, 2), 9);
        spelled(x, 9, "c");
    }

    static void p35_damageAndHashesAreAsThen() {
        ArchiveOfDeltas x = told("v..aabb;v..aabb;r;x000h;");
        x.image();
        due("mended", x.damages(0, 0, 0), 7);
        due("none wrong", x.wrong(), 0);
        x.on();
        due("both wrong", x.wrong(), 3);
        spelled(x, 1, "habb");
        due("steps", x.version(1, 8), 1);
        due("mended again", x.damages(0, 0, 0), 7);
        due("none wrong", x.wrong(), 0);
    }

    static void p35_goneOnesAreThereAgain() {
        ArchiveOfDeltas x = told("v..aabb;v0.aabb;h01;r;");
        x.image();
        x.heads(0, 0);
        due("1 goes", x.collect(), 1);
        due("on", x.on(), 2);
        due("by 0", x.version(1, 3), 0);
        due("a head", x.heads(0, 0), 1);
        due("an ancestor", x.ancestors(1), 1);
    }

    // ---- promise 36 ----

    static void p36_whatZeroToSeven() {
        ArchiveOfDeltas x = told(PACKED, "c;");
        x.row(3);
        x.row(4);
        x.letter('a');
        int[] due = {5, 15, 22, 1, 1, 4, 2, 1};
        for (int what = 0; what <= 7; what++) {
            due("what " + what, x.count(what), due[what]);
        }
    }

    static void p36_anotherWhatIsMinusNineAndNoRefusal() {
        ArchiveOfDeltas x = told(PACKED);
        for (int what : new int[] {-1, -9, 8, 9, 10, 17, 18, 100, LEAST, GREATEST}) {
            due("what " + what, x.count(what), -9);
        }
        refused(x, 0, 0, 0, 0, 0, 0);
    }

    static void p36_refusalsByTheirNumbers() {
        ArchiveOfDeltas x = told(FULL);
        x.twin(10);
        due("nobody", x.count(11), 1);
        x.best(2);
        x.best(3);
        due("other", x.count(12), 2);
        x.on();
        x.merges(1, 1);
        x.on();
        due("state", x.count(13), 3);
        x.bound(-1);
        x.row(-1);
        x.letter(-1);
        x.kind(0, -1);
        due("below", x.count(14), 4);
        x.edits(0, 0, 0);
        x.edits(0, 0, 0);
        x.bound(9);
        x.row(100);
        x.lots(21, 0, 0);
        due("room", x.count(16), 5);
        due("none is -5", x.count(15), 0);
        refused(x, 1, 2, 3, 4, 0, 5);
    }

    static void p36_ofNoneAndOfTen() {
        int[] none = {0, 0, 0, 0, 0, 4, 0, 0};
        int[] ten = {10, 1023, 20, 0, 1023, 4, 0, 0};
        int[] gone = {10, 0, 0, 0, 0, 4, 0, 0};
        for (int what = 0; what <= 7; what++) {
            due("none, what " + what, new ArchiveOfDeltas().count(what), none[what]);
            due("ten, what " + what, told(FULL).count(what), ten[what]);
            due("all gone, what " + what, told(FULL, "c;").count(what), gone[what]);
        }
    }

    static void p36_greatestDepthEight() {
        ArchiveOfDeltas x = told(NINE_DEEP);
        due("depth", x.count(3), 8);
        due("whole", x.count(4), 1);
        due("bound", x.count(5), 8);
    }

    static void p36_numberZeroAloneMayBeDeepest() {
        ArchiveOfDeltas x = told("v..aabb;v..aabb;k20;r;");
        due("depth", x.count(3), 1);
        due("whole", x.count(4), 2);
        due("cost", x.count(2), 8);
    }

    static void p36_fullRowAndLetters() {
        ArchiveOfDeltas x = new ArchiveOfDeltas();
        for (int i = 0; i < 97; i++) {
            x.letter('a');
            x.row(11);
        }
        due("row", x.count(6), 12);
        due("letters", x.count(7), 96);
        refused(x, 0, 0, 0, 0, 0, 1 + 85);
    }
}
