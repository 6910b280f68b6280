/** Each sentence of promises 12 to 23 that names a boundary, a test each, named by its promise. */
public final class Boundaries12To23Test extends Due {
    /** Each of twelve letters, and by PLAIN and bound 8 each by the one before it, down to depth 8. */
    private static final String[] NINE_DEEP = {"v..aabbccddeeff;v..faaabbccddee;v..ddfaaabbccdd;",
        "v..baddfaaabbcc;v..cfbaddfaaabb;", "v..hfcfbaddfaaa;v..abhfcfbaddfa;v..hbabhfcfbadd;v..hehbabhfcfba;", "d8;r;"};
    /** Each is the first parent of the next one. */
    private static final String LINE = "v..a;v0.a;v1.a;v2.a;v3.a;v4.a;v5.a;v6.a;v7.a;v8.a;";

    public static void main(String[] args) throws Exception {
        System.exit(allHold(Boundaries12To23Test.class, 12, 23) ? 0 : 1);
    }

    // ---- promise 12 ----

    static void p12_whatZeroToEight() {
        ArchiveOfDeltas x = told(PACKED);
        int[] due = {9, 1, 2, 0, 1, 3, hash("abcabcabc"), 1, 1};
        for (int what = 0; what <= 8; what++) {
            due("what " + what, x.version(3, what), due[what]);
        }
        refused(x, 0, 0, 0, 0, 0, 0);
        refuses("what -1", y -> y.version(0, -1), -2);
        refuses("what 9", y -> y.version(0, 9), -2);
        refuses("the least", y -> y.version(0, LEAST), -2);
        refuses("the greatest", y -> y.version(0, GREATEST), -2);
    }

    static void p12_noSuchVersion() {
        refuses("-1", y -> y.version(-1, 0), -1);
        refuses("the next number", y -> y.version(5, 0), -1);
        refuses("32 is not 0", y -> y.version(32, 0), -1);
        refuses("the least", y -> y.version(LEAST, 0), -1);
        refuses("the greatest", y -> y.version(GREATEST, 0), -1);
        refuses(FULL, "10", y -> y.version(10, 0), -1);
        refuses(ONE_GONE, "one gone", y -> y.version(0, 0), -1);
        refuses("", "none there", y -> y.version(0, 0), -1);
        due("the last of ten", told(FULL).version(9, 0), 1);
    }

    static void p12_twoRefusalsAtOnce() {
        refuses("version and what: nobody", y -> y.version(5, 9), -1);
        refuses("-1 and -1: nobody", y -> y.version(-1, -1), -1);
    }

    static void p12_oneToTwelveLetters() {
        due("one", told("v..a;").version(0, 0), 1);
        due("one costs", told("v..a;").version(0, 5), 2);
        due("twelve", told("v..abcdefghabcd;").version(0, 0), 12);
        due("twelve cost", told("v..abcdefghabcd;").version(0, 5), 13);
    }

    static void p12_noParentsAreMinusNine() {
        ArchiveOfDeltas x = told("v..a;v0.b;v01c;");
        due("first of none", x.version(0, 1), -9);
        due("second of none", x.version(0, 2), -9);
        due("first is 0", x.version(1, 1), 0);
        due("second of one", x.version(1, 2), -9);
        due("first of two", x.version(2, 1), 0);
        due("second of two", x.version(2, 2), 1);
        refused(x, 0, 0, 0, 0, 0, 0);
    }

    static void p12_baseZeroIsABase() {
        ArchiveOfDeltas x = told(PACKED);
        due("whole", x.version(0, 3), -9);
        due("by 0", x.version(1, 3), 0);
    }

    static void p12_depthZeroToEight() {
        ArchiveOfDeltas x = told(NINE_DEEP);
        for (int v = 0; v <= 8; v++) {
            due("depth of " + v, x.version(v, 4), v);
        }
    }

    static void p12_hashBeginsWithSeven() {
        due("a", told("v..a;").version(0, 6), 7 * 31);
        due("h", told("v..h;").version(0, 6), 7 * 31 + 7);
        due("aa is below 9973 yet", told("v..aa;").version(0, 6), 6727);
        due("aaa is 208537, so above", told("v..aaa;").version(0, 6), 208537 - 20 * 9973);
    }

    static void p12_hashModulo9973() {
        due("the greatest", told("v..cgcga;").version(0, 6), 9972);
        due("one more is the least", told("v..cgcgb;").version(0, 6), 0);
        due("of hash 0 sound", told("v..cgcgb;").version(0, 7), 1);
        due("then 1", told("v..cgcgc;").version(0, 6), 1);
        due("twelve", told("v..hhhhhhhhhhhh;").version(0, 6), 4856);
    }

    static void p12_stepsOfAWholeOneAreNone() {
        ArchiveOfDeltas x = told(PACKED);
        due("whole", x.version(0, 8), 0);
        due("by a delta", x.version(2, 8), 3);
        x.bound(0);
        x.repack();
        due("whole again", x.version(2, 8), 0);
    }

    static void p12_costAndStepsStayAsTheyWereStored() {
        ArchiveOfDeltas x = told("v..aabb;v..aabb;r;x000h;");
        due("cost", x.version(1, 5), 3);
        due("steps", x.version(1, 8), 1);
        due("letters", x.version(1, 0), 4);
        due("by another damage, too", x.damages(0, 3, 0), 1);
        due("cost", x.version(1, 5), 3);
    }

    // ---- promise 13 ----

    static void p13_placesOfIt() {
        ArchiveOfDeltas x = told("v..abcdefghabcd;v..h;");
        due("the first", x.spelt(0, 0), 0);
        due("h", x.spelt(0, 7), 7);
        due("the 12th", x.spelt(0, 11), 3);
        due("the only one", x.spelt(1, 0), 7);
        refuses("v..abcdefghabcd;v..h;", "a 13th", y -> y.spelt(0, 12), -1);
        refuses("v..abcdefghabcd;v..h;", "a second", y -> y.spelt(1, 1), -1);
        refuses("v..abcdefghabcd;v..h;", "-1", y -> y.spelt(0, -1), -1);
        refuses("the least", y -> y.spelt(0, LEAST), -1);
        refuses("the greatest", y -> y.spelt(0, GREATEST), -1);
    }

    static void p13_noSuchVersion() {
        refuses("-1", y -> y.spelt(-1, 0), -1);
        refuses("the next number", y -> y.spelt(5, 0), -1);
        refuses("the greatest", y -> y.spelt(GREATEST, 0), -1);
        refuses(ONE_GONE, "one gone", y -> y.spelt(0, 0), -1);
        refuses("", "none there", y -> y.spelt(0, 0), -1);
    }

    static void p13_bothAreOneRefusal() {
        refuses("version and place", y -> y.spelt(5, -1), -1);
    }

    // ---- promise 14 ----

    static void p14_stepsOfIt() {
        ArchiveOfDeltas x = told(PACKED);
        due("the first of one", x.step(3, 0, 0), 9);
        due("the last of three", x.step(2, 2, 0), 6);
        refuses("behind the only one", y -> y.step(3, 1, 0), -1);
        refuses("behind the last of three", y -> y.step(2, 3, 0), -1);
        refuses("-1", y -> y.step(2, -1, 0), -1);
        refuses("the least", y -> y.step(2, LEAST, 0), -1);
        refuses("the greatest", y -> y.step(2, GREATEST, 0), -1);
    }

    static void p14_aWholeOneHasNoStep() {
        refuses("whole", y -> y.step(0, 0, 0), -1);
        ArchiveOfDeltas x = told(PACKED);
        x.bound(0);
        x.repack();
        due("whole again", x.step(2, 0, 0), -1);
        x = told("v..aabb;v..aabb;h01;r;c;");
        due("whole for a base that went", x.step(1, 0, 0), -1);
    }

    static void p14_noSuchVersion() {
        refuses("-1", y -> y.step(-1, 0, 0), -1);
        refuses("the next number", y -> y.step(5, 0, 0), -1);
        refuses(ONE_GONE, "one gone", y -> y.step(0, 0, 0), -1);
        refuses("", "none there", y -> y.step(0, 0, 0), -1);
    }

    static void p14_whatZeroAndOne() {
        ArchiveOfDeltas x = told(PACKED);
        due("how many", x.step(2, 2, 0), 6);
        due("from where", x.step(2, 2, 1), 0);
        refuses("what -1", y -> y.step(2, 0, -1), -2);
        refuses("what 2", y -> y.step(2, 0, 2), -2);
        refuses("the greatest", y -> y.step(2, 0, GREATEST), -2);
    }

    static void p14_twoRefusalsAtOnce() {
        refuses("version and what: nobody", y -> y.step(5, 0, 2), -1);
        refuses("step and what: nobody", y -> y.step(2, 3, 2), -1);
        refuses("whole and what: nobody", y -> y.step(0, 0, -1), -1);
        refuses("version and step, once", y -> y.step(5, -1, 0), -1);
    }

    static void p14_anInsertTellsZeroAndItsLetter() {
        ArchiveOfDeltas x = told("v..bbbbbb;v..bbbbah;r;");
        due("a copy", x.step(1, 0, 0), 4);
        due("an insert of a", x.step(1, 1, 0), 0);
        due("a", x.step(1, 1, 1), 0);
        due("an insert of h", x.step(1, 2, 0), 0);
        due("h", x.step(1, 2, 1), 7);
    }

    static void p14_aCopyOfTwoAndOfTwelve() {
        ArchiveOfDeltas x = told("v..abcdefghabcd;v..abcdefghabcd;v..abch;v..abhg;r;");
        due("twelve", x.step(1, 0, 0), 12);
        due("from the first place", x.step(1, 0, 1), 0);
        x = told("v..ccccccccccab;v..abcccccccab;r;");
        due("two", x.step(1, 0, 0), 2);
        due("from the last places", x.step(1, 0, 1), 10);
        due("nine", x.step(1, 1, 0), 9);
        due("to the last places", x.step(1, 1, 1), 3);
        due("two copies", x.version(1, 8), 2);
    }

    // ---- promise 15 ----

    private static void deltaIs(String text, int cost, int steps, int copies) {
        ArchiveOfDeltas x = told(text);
        due("cost of " + text, x.delta(0, 1, 0), cost);
        due("steps of " + text, x.delta(0, 1, 1), steps);
        due("copies of " + text, x.delta(0, 1, 2), copies);
    }

    static void p15_aPieceOfOneIsInserted() {
        deltaIs("v..a;v..a;", 2, 1, 0);
        deltaIs("v..abc;v..cba;", 4, 3, 0);
        deltaIs("v..h;v..hhhhhhhhhhhh;", 13, 12, 0);
    }

    static void p15_aPieceOfTwoIsCopied() {
        deltaIs("v..ab;v..ab;", 3, 1, 1);
        deltaIs("v..hh;v..hhhhhhhhhhhh;", 13, 6, 6);
        deltaIs("v..hh;v..hhhhhhhhhhh;", 12, 6, 5);
    }

    static void p15_allTwelveAreOneCopy() {
        deltaIs("v..abcdefghabcd;v..abcdefghabcd;", 3, 1, 1);
        deltaIs("v..abcdefghabcd;v..dcba;", 5, 4, 0);
    }

    static void p15_insertsNextToOneAnotherAreOneEach() {
        deltaIs("v..aaaa;v..hhhh;", 5, 4, 0);
        deltaIs("v..aaaa;v..haah;", 5, 3, 1);
    }

    static void p15_theLongestPieceFromEachPlaceOn() {
        // "ab" and "cd" would be four letters by two copies; "abc" is longer, "d" is left
        deltaIs("v..abchcd;v..abcd;", 4, 2, 1);
        // the first place tells: "aab" is not of it, so "aa" and "b"
        deltaIs("v..aahab;v..aab;", 4, 2, 1);
        // the longest ends with s: it does not run on behind
        deltaIs("v..haa;v..aaaaa;", 1 + 2 + 2 + 1, 3, 2);
    }

    static void p15_ofSeveralPlacesTheFirst() {
        // "abhab" stands at 1 and at 4
        ArchiveOfDeltas x = told("v..cabhabhabdd;v..abhabgabhab;r;");
        due("five", x.step(1, 0, 0), 5);
        due("from the first", x.step(1, 0, 1), 1);
        due("g", x.step(1, 1, 1), 6);
        due("five again", x.step(1, 2, 0), 5);
        due("from the first again", x.step(1, 2, 1), 1);
        due("of one letter's run the first, too", told("v..haaaaah;v..aaag;r;").step(1, 0, 1), 1);
        due("the longer one, though later", told("v..abhabc;v..abchhhh;r;").step(1, 0, 1), 3);
    }

    static void p15_ofOneToItself() {
        ArchiveOfDeltas x = told("v..a;v..abcdefghabcd;");
        due("of one letter", x.delta(0, 0, 0), 2);
        due("of twelve", x.delta(1, 1, 0), 3);
        due("from the long one", x.delta(1, 0, 0), 2);
        due("to the long one", x.delta(0, 1, 0), 13);
    }

    static void p15_noSuchVersionEither() {
        refuses("from -1", y -> y.delta(-1, 0, 0), -1);
        refuses("to -1", y -> y.delta(0, -1, 0), -1);
        refuses("from the next number", y -> y.delta(5, 0, 0), -1);
        refuses("to the next number", y -> y.delta(0, 5, 0), -1);
        refuses(ONE_GONE, "from one gone", y -> y.delta(0, 1, 0), -1);
        refuses(ONE_GONE, "to one gone", y -> y.delta(1, 0, 0), -1);
        refuses("both, once", y -> y.delta(5, 5, 0), -1);
    }

    static void p15_whatZeroToTwo() {
        deltaIs("v..aabb;v..aabh;", 4, 2, 1);
        refuses("what -1", y -> y.delta(0, 1, -1), -2);
        refuses("what 3", y -> y.delta(0, 1, 3), -2);
        refuses("the least", y -> y.delta(0, 1, LEAST), -2);
    }

    static void p15_twoRefusalsAtOnce() {
        refuses("from and what: nobody", y -> y.delta(5, 0, 3), -1);
        refuses("to and what: nobody", y -> y.delta(0, 5, -1), -1);
    }

    // ---- promise 16 ----

    static void p16_ofNothing() {
        ArchiveOfDeltas x = new ArchiveOfDeltas();
        for (int what = 0; what <= 2; what++) {
            due("what " + what, x.repacked(what), 0);
        }
        x = told(FULL, "c;");
        for (int what = 0; what <= 2; what++) {
            due("none any more, what " + what, x.repacked(what), 0);
        }
    }

    static void p16_whatZeroToTwo() {
        ArchiveOfDeltas x = told(PACKED);
        due("cost", x.repacked(0), 27);
        due("greatest depth", x.repacked(1), 1);
        due("whole", x.repacked(2), 2);
        refuses("what -1", y -> y.repacked(-1), -2);
        refuses("what 3", y -> y.repacked(3), -2);
        refuses("the greatest", y -> y.repacked(GREATEST), -2);
    }

    static void p16_inMindNothingChanges() {
        ArchiveOfDeltas x = told(FIVE);
        String before = seen(x);
        due("cost", x.repacked(0), 27);
        sees("in mind", x, before);
        due("cost of all is as it was", x.count(2), 44);
        due("then it is so", x.repack(), 27);
    }

    static void p16_byBoundZeroAndEight() {
        ArchiveOfDeltas x = told(NINE_DEEP);
        due("bound 8", x.repacked(1), 8);
        due("one whole", x.repacked(2), 1);
        x.bound(0);
        due("bound 0", x.repacked(1), 0);
        due("all whole", x.repacked(2), 9);
        due("nine times 13", x.repacked(0), 117);
    }

    static void p16_tenOfOneLetter() {
        ArchiveOfDeltas x = told(FULL);
        due("cost", x.repacked(0), 20);
        due("whole", x.repacked(2), 10);
    }

    // ---- promise 17 ----

    static void p17_whatZeroAndOne() {
        ArchiveOfDeltas x = told(FIVE);
        due("bound best", x.best(0), 1);
        due("kind best", x.best(1), 0);
        refuses("what -1", y -> y.best(-1), -2);
        refuses("what 2", y -> y.best(2), -2);
        refuses("the least", y -> y.best(LEAST), -2);
    }

    static void p17_ofSeveralTheLeast() {
        due("bound of nothing", new ArchiveOfDeltas().best(0), 0);
        due("kind of nothing", new ArchiveOfDeltas().best(1), 0);
        due("bound of one", told("v..abcabc;").best(0), 0);
        due("kind of one", told("v..abcabc;k50;").best(1), 0);
        due("bounds 1 to 8 are alike", told("v..aabb;v..aabb;").best(0), 1);
        due("kinds are alike by bound 0", told("v..aabb;v..aabb;d0;k30;").best(1), 0);
    }

    static void p17_theBoundsZeroAndEight() {
        due("0, if no delta is less", told("v..ab;v..cd;v..ef;d4;").best(0), 0);
        due("8, if it is the best", told(NINE_DEEP).best(0), 8);
    }

    static void p17_aBoundOfNineIsNone() {
        // the tenth is cheapest by the ninth, but that has depth 8
        ArchiveOfDeltas x = told(NINE_DEEP[0], NINE_DEEP[1], NINE_DEEP[2], "v..gdhehbabhfcf;");
        due("by the ninth", x.delta(8, 9, 0), 5);
        due("by the eighth", x.delta(7, 9, 0), 7);
        due("bound best", x.best(0), 8);
    }

    static void p17_boundBestIsByTheKindAsItIs() {
        ArchiveOfDeltas x = told("v..aabb;v..aabb;");
        due("plain", x.best(0), 1);
        x.kind(3, 0);
        due("no kin: none is better than 0", x.best(0), 0);
        x.kind(5, 0);
        due("no window: none is better than 0", x.best(0), 0);
        x.kind(5, 1);
        due("a window", x.best(0), 1);
        x.kind(4, 9);
        due("no thrift: none is better than 0", x.best(0), 0);
    }

    static void p17_figureAndBoundAsTheyAre() {
        // plain: 5, 5 and by a copy and four letters 7; longest: 9, 3 and 3
        ArchiveOfDeltas x = told("v..abcd;v..efgh;v..abcdefgh;");
        due("plain costs", x.repacked(0), 17);
        due("longest is the first of the best", x.best(1), 1);
        x.bound(0);
        due("bound 0: all alike", x.best(1), 0);
    }

    /** What a repack by each of the kinds costs, so that one alone is best. */
    private static void kindIsBest(String text, int best, int... costs) {
        ArchiveOfDeltas x = told(text);
        int figure = x.kind(0, 0) % 10;
        for (int kind = 0; kind <= 5; kind++) {
            x.kind(kind, figure);
            due("cost by kind " + kind, x.repacked(0), costs[kind]);
            due("kind best", x.best(1), best);
        }
    }

    static void p17_plainMayBeBest() {
        // cdc of ccdc and two letters; the other way cc and dc are as dear as whole
        kindIsBest("v..ccdc;v0.bcdcc;k02;d3;", 0, 10, 11, 11, 11, 11, 11);
    }

    static void p17_longestMayBeBest() {
        // bcc and cca of bcca
        kindIsBest("v..bcc;v0.bcca;v..cca;k01;d1;", 1, 12, 11, 12, 12, 13, 12);
    }

    static void p17_newestMayBeBest() {
        // c and ada of dada; the other way twice da is as dear as whole
        kindIsBest("v..cada;v..dada;k03;d3;", 2, 10, 10, 9, 10, 10, 10);
    }

    static void p17_kinMayBeBest() {
        // acacb is whole, for acaa is no kin, so that it may be the base of ccacb
        kindIsBest("v..ccacb;v0.acacb;v..acaa;k03;d1;", 3, 16, 16, 16, 15, 17, 16);
    }

    static void p17_thriftMayBeBest() {
        // dccdc is whole, for 1 is not enough, so that it may be the base of accdc
        kindIsBest("v..dccac;v..dccdc;v..accdc;k01;d1;", 4, 17, 17, 17, 18, 16, 17);
    }

    static void p17_windowMayBeBest() {
        // aabcac, cacca by it, cacba whole, for cacca has depth 1; cacba by that
        kindIsBest("v..cacca;v0.cacba;v..cacba;v0.aabcac;k01;d1;", 5, 22, 22, 22, 24, 22, 21);
    }

    static void p17_nothingChanges() {
        ArchiveOfDeltas x = told(PACKED);
        x.kind(4, 3);
        String before = seen(x);
        x.best(0);
        x.best(1);
        sees("best", x, before);
    }

    // ---- promise 18 ----

    static void p18_aloneThereIsNone() {
        ArchiveOfDeltas x = told("v..abcd;");
        due("base", x.bestBase(0, 0), -9);
        due("cost", x.bestBase(0, 1), -9);
        x = told(ONE_GONE);
        due("base, but one gone", x.bestBase(1, 0), -9);
        due("cost, but one gone", x.bestBase(1, 1), -9);
        refused(x, 0, 0, 0, 0, 0, 0);
    }

    static void p18_ofSeveralTheLeastNumber() {
        ArchiveOfDeltas x = told("v..aabb;v..aabb;v..aabb;");
        due("of 0", x.bestBase(0, 0), 1);
        due("of 1", x.bestBase(1, 0), 0);
        due("of 2", x.bestBase(2, 0), 0);
        due("cost", x.bestBase(2, 1), 3);
        x = told(FULL);
        due("of 0", x.bestBase(0, 0), 1);
        due("of 9", x.bestBase(9, 0), 0);
    }

    static void p18_aDearOneIsTheBestAllTheSame() {
        ArchiveOfDeltas x = told("v..abcdefghabcd;v..hhhhhhhhhhhh;d0;k30;");
        due("of 0", x.bestBase(0, 0), 1);
        due("as dear as whole", x.bestBase(0, 1), 13);
        x = told("v..a;v..abab;");
        due("of one letter", x.bestBase(0, 1), 2);
    }

    static void p18_theLastNumberMayBeBest() {
        ArchiveOfDeltas x = told("v..hhhh;" + "v..a;".repeat(8) + "v..hhhh;");
        due("of 0", x.bestBase(0, 0), 9);
        due("cost", x.bestBase(0, 1), 3);
    }

    static void p18_noSuchVersion() {
        refuses("-1", y -> y.bestBase(-1, 0), -1);
        refuses("the next number", y -> y.bestBase(5, 0), -1);
        refuses("the greatest", y -> y.bestBase(GREATEST, 0), -1);
        refuses(ONE_GONE, "one gone", y -> y.bestBase(0, 0), -1);
        refuses("", "none there", y -> y.bestBase(0, 0), -1);
    }

    static void p18_whatZeroAndOne() {
        refuses("what -1", y -> y.bestBase(0, -1), -2);
        refuses("what 2", y -> y.bestBase(0, 2), -2);
        refuses("v..a;", "what 2 of one alone", y -> y.bestBase(0, 2), -2);
    }

    static void p18_twoRefusalsAtOnce() {
        refuses("version and what: nobody", y -> y.bestBase(5, 2), -1);
    }

    static void p18_asRestored() {
        ArchiveOfDeltas x = told("v..aabb;v..aabb;v..aabb;x001h;");
        due("of 1 it is 2", x.bestBase(1, 0), 2);
        due("cost", x.bestBase(1, 1), 3);
    }

    // ---- promise 19 ----

    static void p19_ofNothing() {
        ArchiveOfDeltas x = new ArchiveOfDeltas();
        due("reached", x.reached(0), 0);
        due("garbage", x.reached(1), 0);
        due("contents", x.reached(2), 0);
    }

    static void p19_noHeadsAndAllHeads() {
        ArchiveOfDeltas x = told("v..a;v..b;v..c;v..d;v..e;");
        due("of no head", x.reached(0), 0);
        due("all is garbage", x.reached(1), 31);
        for (int h = 0; h <= 3; h++) {
            x.heads(h, h + 1);
        }
        due("of four heads", x.reached(0), 30);
        due("one is garbage", x.reached(1), 1);
        x.heads(3, -1);
        due("of three", x.reached(0), 14);
    }

    static void p19_tenReached() {
        ArchiveOfDeltas x = told(LINE);
        x.heads(2, 9);
        due("all", x.reached(0), 1023);
        due("no garbage", x.reached(1), 0);
        x.heads(2, 0);
        due("0 alone", x.reached(0), 1);
        due("garbage", x.reached(1), 1022);
    }

    static void p19_theretoAlone() {
        ArchiveOfDeltas x = told(ONE_GONE);
        due("reached", x.reached(0), 2);
        due("garbage", x.reached(1), 0);
        due("contents", x.reached(2), 1);
    }

    static void p19_contentsOneToTen() {
        due("all alike", told(FULL).reached(2), 1);
        due("none alike", told("v..a;v..b;v..c;v..d;v..e;v..f;v..g;v..h;v..aa;v..ab;").reached(2), 10);
        due("of other lengths", told("v..a;v..aa;v..aaa;").reached(2), 3);
        // hashes are alike, letters are not
        due("of one hash", told("v..aaaa;v..baee;").reached(2), 2);
    }

    static void p19_whatZeroToTwo() {
        refuses("what -1", y -> y.reached(-1), -2);
        refuses("what 3", y -> y.reached(3), -2);
        refuses("", "what 3 of nothing", y -> y.reached(3), -2);
    }

    // ---- promise 20 ----

    static void p20_noneAndAll() {
        ArchiveOfDeltas x = told(LINE);
        due("of the first", x.ancestors(0), 0);
        due("of the second", x.ancestors(1), 1);
        due("of the last", x.ancestors(9), 511);
    }

    static void p20_butItself() {
        ArchiveOfDeltas x = told(FAMILY);
        due("of 3", x.ancestors(3), 7);
        due("of 5", x.ancestors(5), 16);
    }

    static void p20_throughTheSecondParentToo() {
        ArchiveOfDeltas x = told("v..a;v0.b;v..c;v21d;");
        due("of 3", x.ancestors(3), 7);
    }

    static void p20_noSuchVersion() {
        refuses("-1", y -> y.ancestors(-1), -1);
        refuses("the next number", y -> y.ancestors(5), -1);
        refuses("the least", y -> y.ancestors(LEAST), -1);
        refuses("the greatest", y -> y.ancestors(GREATEST), -1);
        refuses(ONE_GONE, "one gone", y -> y.ancestors(0), -1);
        refuses("", "none there", y -> y.ancestors(0), -1);
    }

    // ---- promise 21 ----

    static void p21_noneIsMinusNineAndZeroIsOne() {
        ArchiveOfDeltas x = told(FAMILY);
        due("none", x.common(3, 5), -9);
        due("0", x.common(1, 2), 0);
        due("0 with itself", x.common(0, 0), 0);
        refused(x, 0, 0, 0, 0, 0, 0);
    }

    static void p21_itselfIsReached() {
        ArchiveOfDeltas x = told(LINE);
        due("9 with itself", x.common(9, 9), 9);
        due("with its ancestor", x.common(9, 3), 3);
        due("its ancestor with it", x.common(3, 9), 3);
        due("the ends", x.common(0, 9), 0);
    }

    static void p21_theGreatestOfSeveral() {
        ArchiveOfDeltas x = told("v..a;v..b;v01c;v01d;");
        due("0 and 1 are", x.common(2, 3), 1);
    }

    static void p21_noSuchVersionEither() {
        refuses("a: -1", y -> y.common(-1, 0), -1);
        refuses("b: -1", y -> y.common(0, -1), -1);
        refuses("a: the next number", y -> y.common(5, 0), -1);
        refuses("b: the next number", y -> y.common(0, 5), -1);
        refuses("both, once", y -> y.common(5, 5), -1);
        refuses(ONE_GONE, "a: gone", y -> y.common(0, 1), -1);
        refuses(ONE_GONE, "b: gone", y -> y.common(1, 0), -1);
        refuses(ONE_GONE, "both gone", y -> y.common(0, 0), -1);
    }

    // ---- promise 22 ----

    static void p22_zeroIsTheVersionAlone() {
        ArchiveOfDeltas x = told(LINE);
        x.heads(0, 9);
        due("n 0", x.generations(0, 0), 512);
        due("n 1", x.generations(0, 1), 512 + 256);
    }

    static void p22_nineAreAllOfTen() {
        ArchiveOfDeltas x = told(LINE);
        x.heads(3, 9);
        due("n 8", x.generations(3, 8), 1022);
        due("n 9", x.generations(3, 9), 1023);
        refuses(LINE, "n 10", y -> y.generations(0, 10), -6);
        refuses(LINE, "the greatest", y -> y.generations(0, GREATEST), -6);
    }

    static void p22_belowZero() {
        refuses("n -1", y -> y.generations(0, -1), -4);
        refuses("the least", y -> y.generations(0, LEAST), -4);
    }

    static void p22_moreThanThereAre() {
        ArchiveOfDeltas x = told(FAMILY);
        x.heads(1, 3);
        due("n 0", x.generations(1, 0), 8);
        due("n 1, both parents", x.generations(1, 1), 14);
        due("n 2", x.generations(1, 2), 15);
        due("n 9", x.generations(1, 9), 15);
    }

    static void p22_aHeadThatIsNone() {
        ArchiveOfDeltas x = told(PACKED);
        for (int n = 0; n <= 9; n++) {
            due("n " + n, x.generations(2, n), 0);
        }
        refused(x, 0, 0, 0, 0, 0, 0);
        refuses("n -1 of none", y -> y.generations(2, -1), -4);
        refuses("n 10 of none", y -> y.generations(2, 10), -6);
    }

    static void p22_headsZeroToThree() {
        ArchiveOfDeltas x = told("v..a;v..b;v..c;v..d;h03;h12;h21;h30;");
        for (int h = 0; h <= 3; h++) {
            due("head " + h, x.generations(h, 5), 1 << 3 - h);
        }
        refuses("head -1", y -> y.generations(-1, 0), -1);
        refuses("head 4", y -> y.generations(4, 0), -1);
        refuses("the least", y -> y.generations(LEAST, 0), -1);
        refuses("the greatest", y -> y.generations(GREATEST, 0), -1);
    }

    static void p22_twoRefusalsAtOnce() {
        refuses("head and below: nobody", y -> y.generations(4, -1), -1);
        refuses("head and above: nobody", y -> y.generations(-1, 10), -1);
    }

    // ---- promise 23 ----

    static void p23_itselfAndTheLeast() {
        ArchiveOfDeltas x = told(FULL);
        due("of 0", x.twin(0), 0);
        due("of 9", x.twin(9), 0);
        x = told("v..a;v..b;v..b;v..aa;");
        due("itself", x.twin(1), 1);
        due("the lesser", x.twin(2), 1);
        due("a longer one is no twin", x.twin(3), 3);
    }

    static void p23_thereAlone() {
        ArchiveOfDeltas x = told("v..ab;v..ab;v..ab;h01;h12;c;");
        due("the least there", x.twin(2), 1);
        due("itself", x.twin(1), 1);
    }

    static void p23_byLettersNotByHash() {
        ArchiveOfDeltas x = told("v..aaaa;v..baee;v..baee;x100a;x102a;x103a;");
        due("as restored", x.twin(1), 0);
        due("of the same hash alone", x.twin(2), 2);
    }

    static void p23_noSuchVersion() {
        refuses("-1", y -> y.twin(-1), -1);
        refuses("the next number", y -> y.twin(5), -1);
        refuses("the least", y -> y.twin(LEAST), -1);
        refuses("the greatest", y -> y.twin(GREATEST), -1);
        refuses(ONE_GONE, "one gone", y -> y.twin(0), -1);
        refuses("", "none there", y -> y.twin(0), -1);
    }
}
