/** Promises 1 to 36 of the document, one by one; the numbers due are worked out by hand. */
public final class PromisesTest extends Due {
    public static void main(String[] args) throws Exception {
        System.exit(allHold(PromisesTest.class, 1, 36) ? 0 : 1);
    }

    static void p01_aNewObject() {
        ArchiveOfDeltas x = new ArchiveOfDeltas();
        int[] due = {0, 0, 0, 0, 0, 4, 0, 0};
        for (int what = 0; what < due.length; what++) {
            due("count(" + what + ")", x.count(what), due[what]);
        }
        for (int what = 11; what <= 16; what++) {
            due("count(" + what + ")", x.count(what), 0);
        }
        for (int h = 0; h < 4; h++) {
            due("heads", x.heads(h, -1), -9);
        }
        due("kind", x.kind(0, 0), 0);
        due("bound", x.bound(4), 4);
        due("clear", x.clear(), 0);
        due("on", x.on(), -3);
        for (int v = -1; v <= 10; v++) {
            due("version", x.version(v, 0), -1);
        }
    }

    static void p02_letter() {
        ArchiveOfDeltas x = new ArchiveOfDeltas();
        due("0", x.letter(0), 1);
        due("255", x.letter(255), 2);
        due("256", x.letter(256), -6);
        due("-1", x.letter(-1), -4);
        for (int i = 3; i <= 96; i++) {
            due("letter", x.letter('a'), i);
        }
        due("a 97th", x.letter('a'), -6);
        due("-1 as a 97th", x.letter(-1), -4);
        due("letters", x.count(7), 96);
        due("below", x.count(14), 2);
        due("room", x.count(16), 2);
        due("archive", x.archive(), -1000);
        due("letter", x.letter(';'), 1);
    }

    /** That a text is a fault: it is told by its number, comes with nothing, and counts for nothing. */
    private static void faults(String text, int fault) {
        faults("v..ab;", text, fault);
    }

    private static void faults(String ahead, String text, int fault) {
        ArchiveOfDeltas x = told(ahead);
        String before = seen(x);
        due("fault of " + text, tell(x, text), fault);
        due("letters", x.count(7), 0);
        due("nothing comes with " + text, seen(x).equals(before) ? 1 : 0, 1);
        for (int i = 11; i <= 16; i++) {
            due("nothing is counted", x.count(i), 0);
        }
    }

    static void p03_archive() {
        ArchiveOfDeltas x = told("v..abcdefghabcd;", "v0.h;v01aa;h12;h30;h3.;k47;d8;r;x202;".replace("x202;", "x100c;"));
        due("came", x.count(0), 3);
        spelled(x, 0, "abcdefghabcd");
        spelled(x, 1, "c");
        due("a first parent", x.version(2, 1), 0);
        due("a second parent", x.version(2, 2), 1);
        due("a head", x.heads(1, -1), 2);
        due("no head", x.heads(3, -1), -9);
        due("kind", x.kind(0, 0), 47);
        due("bound", x.count(5), 8);
        due("letters", x.count(7), 0);
        x = told("v..aaaa;v..aaaa;h00;r;");
        due("a repack", x.version(1, 3), 0);
        due("collected", tell(x, "c;"), 1);
        due("there", x.count(1), 1);
        faultsOfForm();
        faultsOfSense();
        due("ten", tell(new ArchiveOfDeltas(), "v..a;".repeat(10)), 10);
        due("eleven", tell(new ArchiveOfDeltas(), "v..a;".repeat(11)), -2050);
    }

    private static void faultsOfForm() {
        faults("", -1000);
        faults(";", -1000);
        faults("e", -1000);
        faults("v", -1001);
        faults("va", -1001);
        faults("v.;", -1002);
        faults("v..;", -1003);
        faults("v..i;", -1003);
        faults("v..a", -1004);
        faults("v..abcdefghabcd", -1015);
        faults("v..abcdefghabcda;", -1015);
        faults("v..a;;", -1005);
        faults("v..A;", -1003);
        faults("h.0;", -1001);
        faults("h0;", -1002);
        faults("h00", -1003);
        faults("h000;", -1003);
        faults("k.0;", -1001);
        faults("k0.;", -1002);
        faults("k000;", -1003);
        faults("d.;", -1001);
        faults("d44;", -1002);
        faults("rr;", -1001);
        faults("c", -1001);
        faults("x.00a;", -1001);
        faults("x0a;", -1002);
        faults("x00a;", -1003);
        faults("x000;", -1004);
        faults("x000i;", -1004);
        faults("x000ab;", -1005);
        // the form is looked at first, wherever the sense is at fault
        faults("h40;d9;q;", -1007);
        faults("r;\u00e9", -1002);
    }

    private static void faultsOfSense() {
        faults("h40;", -2000);
        faults("r;h01;", -2002);
        faults("h01;v..a;", -2000);
        faults("k60;", -2000);
        faults("r;c;k99;", -2002 - 2);
        faults("d9;", -2000);
        faults("v1.a;", -2000);
        faults("v.0a;", -2000);
        faults("v00a;", -2000);
        faults("v01a;", -2000);
        faults("v0.a;v01b;v12c;v22d;", -2015);
        faults("x100a;", -2000);
        faults("x002a;", -2000);
        faults("x010a;", -2000);
        faults("x001h;x002a;", -2006);
        // with what was ahead in the text: gone by "c", a delta by "r"
        faults("c;h00;", -2002);
        faults("v..abab;c;", "v0.a;", -2000);
        faults("v..aaaa;v..aaaa;", "x100b;r;x000c;x100b;", -2014);
        faults("v..a;".repeat(10), "r;v..a;", -2002);
        faults("v..a;", "h40;d9;", -2000);
    }

    static void p04_edits() {
        ArchiveOfDeltas x = told("v..abc;");
        due("another letter", x.edits(0, 0, 7), 1);
        spelled(x, 1, "hbc");
        due("the same letter", x.edits(0, 2, 2), 2);
        spelled(x, 2, "abc");
        due("one more", x.edits(1, 3, 3), 3);
        spelled(x, 3, "hbcd");
        due("one left out", x.edits(3, 1, 8), 4);
        spelled(x, 4, "hcd");
        due("its parent", x.version(4, 1), 3);
        due("no second one", x.version(4, 2), -9);
        due("whole", x.version(4, 3), -9);
        spelled(x, 0, "abc");
        for (int v = 5; v < 10; v++) {
            due("a version", x.edits(v - 1, x.version(v - 1, 0) - 1, 8 * ((9 - v) / 4)), v);
        }
        due("an 11th", x.edits(0, 0, 0), -6);
        due("room", x.count(16), 1);
        // an edited one has the hash of its own letters, though they come from damaged ones
        x = told("v..aaaabbbb;v..aaaabbbb;r;x000h;");
        due("edited", x.edits(1, 7, 2), 2);
        spelled(x, 2, "haaabbbc");
        due("sound", x.version(2, 7), 1);
        due("not sound", x.version(1, 7), 0);
        refuses("edits of none", y -> y.edits(5, 0, 0), -1);
        refuses("edits of -1", y -> y.edits(-1, 0, 0), -1);
        refuses("edits at -1", y -> y.edits(4, -1, 9), -1);
        refuses("edits at 5", y -> y.edits(4, 5, 9), -1);
        refuses("edits to 9", y -> y.edits(4, 0, 9), -2);
        refuses("edits to -1", y -> y.edits(4, 4, -1), -2);
        refuses("edits behind the last", y -> y.edits(4, 4, 8), -3);
        refuses("v..a;", "edits all away", y -> y.edits(0, 0, 8), -3);
        refuses("v..abcdefghabcd;", "a 13th letter", y -> y.edits(0, 12, 0), -6);
        refuses("v..abcdefghabcd;", "none behind the 12th", y -> y.edits(0, 12, 8), -3);
        refuses("v..abcdefghabcd;", "to 9 behind the 12th", y -> y.edits(0, 12, 9), -2);
        refuses("v..a;".repeat(10), "no room, but all away", y -> y.edits(9, 0, 8), -3);
        refuses("v..a;".repeat(10), "no room, but to 9", y -> y.edits(9, 0, 9), -2);
        refuses("v..a;".repeat(10), "no room", y -> y.edits(9, 0, 1), -6);
        refuses("v..a;v..b;h01;c;", "edits of one gone", y -> y.edits(0, 0, 1), -1);
    }

    static void p05_merges() {
        ArchiveOfDeltas x = told(PACKED);
        due("a version", x.merges(2, 4), 5);
        spelled(x, 5, "ddabcabc");
        due("a first parent", x.version(5, 1), 2);
        due("a second parent", x.version(5, 2), 4);
        due("whole", x.version(5, 3), -9);
        due("a hash", x.version(5, 6), x.version(2, 6));
        due("greater first", x.merges(4, 1), 6);
        spelled(x, 6, "hgfe");
        due("a first parent", x.version(6, 1), 4);
        refuses("merges of none", y -> y.merges(5, 0), -1);
        refuses("merges with none", y -> y.merges(0, -1), -1);
        refuses("merges of none twice", y -> y.merges(7, 7), -1);
        refuses("one twice", y -> y.merges(2, 2), -3);
        refuses("v..a;".repeat(10), "one twice without room", y -> y.merges(9, 9), -3);
        refuses("v..a;".repeat(10), "no room", y -> y.merges(8, 9), -6);
        refuses("v..a;v..b;h01;c;", "one gone", y -> y.merges(1, 0), -1);
    }

    static void p06_heads() {
        ArchiveOfDeltas x = told(FIVE);
        due("0", x.heads(0, 4), 3);
        due("0 again", x.heads(0, -1), 4);
        due("none", x.heads(0, -1), -9);
        due("3", x.heads(3, 0), -9);
        due("3 again", x.heads(3, 0), 0);
        due("1", x.heads(1, 1), 2);
        refuses("head -1", y -> y.heads(-1, 0), -1);
        refuses("head 4", y -> y.heads(4, -1), -1);
        refuses("version 5", y -> y.heads(0, 5), -1);
        refuses("version -2", y -> y.heads(0, -2), -1);
        refuses("v..a;v..b;h01;c;", "one gone", y -> y.heads(0, 0), -1);
    }

    static void p07_kind() {
        ArchiveOfDeltas x = new ArchiveOfDeltas();
        due("at first", x.kind(5, 9), 0);
        due("then", x.kind(3, 0), 59);
        due("then", x.kind(0, 7), 30);
        due("then", x.kind(0, 0), 7);
        refuses("kind -1", y -> y.kind(-1, -1), -2);
        refuses("kind 6", y -> y.kind(6, 10), -2);
        refuses("figure -1", y -> y.kind(1, -1), -4);
        refuses("figure 10", y -> y.kind(1, 10), -6);
    }

    static void p08_bound() {
        ArchiveOfDeltas x = new ArchiveOfDeltas();
        due("at first", x.bound(0), 4);
        due("then", x.bound(8), 0);
        due("then", x.bound(1), 8);
        due("count", x.count(5), 1);
        refuses("-1", y -> y.bound(-1), -4);
        refuses("9", y -> y.bound(9), -6);
    }

    static void p09_repack() {
        ArchiveOfDeltas x = told(FIVE);
        due("plain", x.repack(), 10 + 4 + 5 + 3 + 5);
        bases("plain", x, -9, 0, 0, 0, -9);
        due("kind", x.kind(1, 0), 0);
        due("longest", x.repack(), 10 + 4 + 5 + 3 + 5);
        due("kind", x.kind(2, 0), 10);
        // 4, 3, 2 by 3, 1 by 3, 0 by 3
        due("newest", x.repack(), 5 + 10 + 5 + 4 + 3);
        bases("newest", x, 3, 3, 3, -9, -9);
        due("kind", x.kind(3, 0), 20);
        // 4, 3, 2 by 3, 1 by 3, 0 by 1: "abcabcab" and "c"
        due("kin", x.repack(), 5 + 10 + 5 + 4 + 4);
        bases("kin", x, 1, 3, 3, -9, -9);
        due("depth", x.version(0, 4), 2);
        due("bound", x.bound(1), 4);
        due("kin, bound 1", x.repack(), 5 + 10 + 5 + 4 + 10);
        bases("kin, bound 1", x, -9, 3, 3, -9, -9);
        due("bound", x.bound(0), 1);
        due("bound 0", x.repack(), 10 + 10 + 9 + 10 + 5);
        bases("bound 0", x, -9, -9, -9, -9, -9);
        thrift();
        window();
        tiesAndChains();
        damagedRepack();
        due("nothing", new ArchiveOfDeltas().repack(), 0);
    }

    private static void thrift() {
        ArchiveOfDeltas x = told(FIVE);
        // saved: 1 by 0 6, 3 by 0 7, 2 by 0 4
        int[] due = {27, 27, 27, 27, 31, 31, 37, 44, 44, 44};
        for (int figure = 0; figure < 10; figure++) {
            x.kind(4, figure);
            due("thrift " + figure, x.repack(), due[figure]);
        }
        // of longest: a short one has the longer one as its base, of alike ones by numbers
        x = told("v..abab;v..ababab;v..ababab;k10;r;");
        bases("longest", x, 1, -9, 1);
        x = told("v..abab;v..ababab;v..ababab;k40;r;");
        bases("thrift", x, 1, -9, 1);
        x = told("v..abab;v..ababab;v..ababab;k51;r;");
        bases("window", x, 2, -9, 1);
    }

    private static void window() {
        ArchiveOfDeltas x = told(FIVE + "k50;r;");
        bases("window 0", x, -9, -9, -9, -9, -9);
        // 0, 1, 3 of nine letters, 2, 4: 3 by 1 "abcabcab" "c"; 2 by 3
        x = told(FIVE + "k51;r;");
        bases("window 1", x, -9, 0, 3, 1, -9);
        due("cost", x.count(2), 10 + 4 + 5 + 4 + 5);
        x = told(FIVE + "k52;r;");
        bases("window 2", x, -9, 0, 1, 0, -9);
    }

    private static void tiesAndChains() {
        // as cheap from 0 as from 1: the first placed is taken
        ArchiveOfDeltas x = told("v..aabbc;v..aabbd;v..aabbe;r;");
        bases("of several", x, -9, 0, 0);
        x = told("v..aabbc;v..aabbd;v..aabbe;k20;r;");
        bases("of several, newest", x, 2, 2, -9);
        // a delta as dear as whole saves nothing
        x = told("v..ab;v..ab;v..a;v..abc;v..a;r;");
        bases("saves", x, -9, -9, -9, -9, -9);
        x = told("v..aba;v..aba;r;");
        bases("saves 1", x, -9, 0);
        // chains no longer than the bound: 1 by 0 costs 5, 2 by 1 5, by 0 7, 3 by 2 5, by 1 7, by 0 9
        x = told(CHAIN, "r;");
        bases("bound 4", x, -9, 0, 1, 2);
        due("depth", x.count(3), 3);
        due("cost", x.count(2), 28);
        x = told(CHAIN, "d2;r;");
        bases("bound 2", x, -9, 0, 1, 1);
        due("depth", x.count(3), 2);
        due("cost", x.count(2), 30);
        x = told(CHAIN, "d1;r;");
        bases("bound 1", x, -9, 0, 0, 0);
        due("depth", x.count(3), 1);
        due("cost", x.count(2), 34);
    }

    private static void damagedRepack() {
        ArchiveOfDeltas x = told("v..aaaabbbb;v..aaaabbbb;v..cccc;r;x000h;");
        spelled(x, 1, "haaabbbb");
        int hash = x.version(0, 6);
        due("kind", x.kind(2, 0), 0);
        due("as restored", x.repack(), 5 + 9 + 3);
        bases("as restored", x, 1, -9, -9);
        spelled(x, 0, "haaabbbb");
        spelled(x, 1, "haaabbbb");
        due("hashes stay", x.version(0, 6), hash);
        due("hashes stay", x.version(1, 6), hash);
        due("wrong", x.wrong(), 3);
    }

    static void p10_collect() {
        ArchiveOfDeltas x = told(PACKED);
        due("4 goes", x.collect(), 1);
        due("there", x.count(1), 15);
        due("nothing more", x.collect(), 0);
        due("head", x.heads(0, -1), 3);
        due("3 goes", x.collect(), 1);
        due("there", x.count(1), 7);
        due("parents", x.version(2, 1), 1);
        x.heads(1, -1);
        due("all go", x.collect(), 3);
        due("there", x.count(1), 0);
        due("came", x.count(0), 5);
        due("none", x.collect(), 0);
        due("a number is never used again", tell(x, "v..a;"), 1);
        due("number 5", x.version(5, 0), 1);
        due("number 0", x.version(0, 0), -1);
        // 1 is stored by 0, 2 by 1; 0 goes: 1 is stored whole, 2 by 1 still
        x = told("v..aabbccddeeff;v..ggaabbccddee;v1.hhggaabbccdd;h02;r;x000h;");
        bases("ahead", x, -9, 0, 1);
        int first = x.version(1, 6);
        due("0 goes", x.collect(), 1);
        due("1 is whole", x.version(1, 3), -9);
        due("cost of 1", x.version(1, 5), 13);
        due("hash stays", x.version(1, 6), first);
        due("2 is not", x.version(2, 3), 1);
        due("depth", x.version(2, 4), 1);
        spelled(x, 1, "gghabbccddee");
        spelled(x, 2, "hhgghabbccdd");
        // as restored, that is as damaged
        x = told("v..aabbcc;v..aabbcc;h01;r;x002h;c;");
        due("there", x.count(1), 2);
        spelled(x, 1, "aahbcc");
        due("wrong", x.wrong(), 2);
        x = told("v..aabb;v..aabb;k20;h00;r;");
        due("0 is by 1", x.version(0, 3), 1);
        due("1 goes", x.collect(), 1);
        due("0 is whole", x.version(0, 5), 5);
        // a parent stays with its child
        x = told("v..a;v0.b;h01;c;");
        due("both stay", x.count(1), 3);
    }

    static void p11_damages() {
        ArchiveOfDeltas x = told("v..aaaabbbb;v..aaaabbbb;v..aaaabbbc;r;");
        bases("ahead", x, -9, 0, 0);
        due("a", x.damages(0, 1, 7), 0);
        due("h", x.damages(0, 1, 6), 7);
        spelled(x, 0, "agaabbbb");
        spelled(x, 1, "agaabbbb");
        spelled(x, 2, "agaabbbc");
        due("wrong", x.wrong(), 7);
        due("back", x.damages(0, 1, 0), 6);
        due("wrong", x.wrong(), 0);
        due("the same", x.damages(0, 0, 0), 0);
        due("the last", x.damages(0, 7, 2), 1);
        spelled(x, 1, "aaaabbbc");
        spelled(x, 2, "aaaabbbc");
        x = told("v..aabb;v..aabb;k20;r;");
        due("the greatest is whole", x.damages(1, 3, 7), 1);
        spelled(x, 0, "aabh");
        refuses("of 5", y -> y.damages(5, 0, 0), -1);
        refuses("not whole, no place", y -> y.damages(1, 99, 9), -3);
        refuses("place 9", y -> y.damages(0, 9, 9), -1);
        refuses("place -1", y -> y.damages(0, -1, 9), -1);
        refuses("letter 8", y -> y.damages(0, 8, 8), -2);
        refuses("letter -1", y -> y.damages(0, 0, -1), -2);
    }

    static void p12_version() {
        ArchiveOfDeltas x = told(PACKED);
        int[] whole = {9, -9, -9, -9, 0, 10, hash("abcabcabc"), 1, 0};
        int[] second = {8, 1, -9, 0, 1, 5, hash("ddabcabc"), 1, 3};
        int[] third = {9, 1, 2, 0, 1, 3, hash("abcabcabc"), 1, 1};
        for (int what = 0; what <= 8; what++) {
            due("0, " + what, x.version(0, what), whole[what]);
            due("2, " + what, x.version(2, what), second[what]);
            due("3, " + what, x.version(3, what), third[what]);
        }
        due("hash of a", told("v..a;").version(0, 6), 217);
        due("hash of b", told("v..b;").version(0, 6), 218);
        due("hash of hhhh", told("v..hhhh;").version(0, 6), hash("hhhh"));
        x.damages(0, 0, 1);
        due("not sound", x.version(0, 7), 0);
        due("not sound", x.version(3, 7), 0);
        due("hash", x.version(0, 6), whole[6]);
        due("sound", x.version(4, 7), 1);
        refuses("-1", y -> y.version(-1, 9), -1);
        refuses("5", y -> y.version(5, 0), -1);
        refuses("what 9", y -> y.version(0, 9), -2);
        refuses("what -1", y -> y.version(0, -1), -2);
    }

    static void p13_spelt() {
        ArchiveOfDeltas x = told(PACKED);
        due("d", x.spelt(1, 8), 3);
        due("a", x.spelt(1, 0), 0);
        due("h", x.spelt(4, 0), 7);
        due("e", x.spelt(4, 3), 4);
        refuses("version 5", y -> y.spelt(5, 0), -1);
        refuses("place 4", y -> y.spelt(4, 4), -1);
        refuses("place -1", y -> y.spelt(4, -1), -1);
    }

    static void p14_step() {
        ArchiveOfDeltas x = told(PACKED);
        // 2 is d, d, and "abcabc" from place 0
        int[][] due = {{0, 3}, {0, 3}, {6, 0}};
        for (int i = 0; i < 3; i++) {
            due("how many", x.step(2, i, 0), due[i][0]);
            due("where", x.step(2, i, 1), due[i][1]);
        }
        // "cab" stands at 2 first, then at 5
        x = told("v..hgcabdcab;v..cabcabfa;r;");
        due("cab", x.step(1, 0, 0), 3);
        due("at 2", x.step(1, 0, 1), 2);
        due("cab", x.step(1, 1, 0), 3);
        due("at 2", x.step(1, 1, 1), 2);
        due("f", x.step(1, 2, 1), 5);
        due("a alone is an insert", x.step(1, 3, 0), 0);
        due("a", x.step(1, 3, 1), 0);
        // steps stay as they were, though the base is damaged
        x.damages(0, 3, 7);
        due("at 2 still", x.step(1, 0, 1), 2);
        spelled(x, 1, "chbchbfa");
        refuses("version 5", y -> y.step(5, 0, 2), -1);
        refuses("whole", y -> y.step(0, 0, 2), -1);
        refuses("step 3", y -> y.step(2, 3, 2), -1);
        refuses("step -1", y -> y.step(2, -1, 2), -1);
        refuses("what 2", y -> y.step(2, 2, 2), -2);
        refuses("what -1", y -> y.step(2, 0, -1), -2);
    }

    private static void deltaIs(ArchiveOfDeltas x, int from, int to, int cost, int steps, int copies) {
        due("cost " + from + " " + to, x.delta(from, to, 0), cost);
        due("steps " + from + " " + to, x.delta(from, to, 1), steps);
        due("copies " + from + " " + to, x.delta(from, to, 2), copies);
    }

    static void p15_delta() {
        ArchiveOfDeltas x = told(PACKED);
        deltaIs(x, 0, 0, 3, 1, 1);
        deltaIs(x, 0, 1, 4, 2, 1);
        deltaIs(x, 1, 0, 4, 2, 1);
        deltaIs(x, 0, 2, 5, 3, 1);
        // "abcabc" and "abc"
        deltaIs(x, 2, 0, 5, 2, 2);
        deltaIs(x, 0, 4, 5, 4, 0);
        deltaIs(x, 4, 0, 10, 9, 0);
        x = told("v..a;v..aa;v..abcdbcd;v..bcdabc;");
        deltaIs(x, 0, 0, 2, 1, 0);
        deltaIs(x, 1, 0, 2, 1, 0);
        deltaIs(x, 0, 1, 3, 2, 0);
        // the longest from a place on, not the cheapest: "bcd" "abc" of abcdbcd
        deltaIs(x, 2, 3, 5, 2, 2);
        // "abc" "d"? no: "d" alone stands, "bcd" then
        deltaIs(x, 3, 2, 1 + 2 + 1 + 2, 3, 2);
        x.damages(2, 2, 7);
        // from abhdbcd: "bcd" "ab" "c"
        deltaIs(x, 2, 3, 6, 3, 2);
        refuses("from 5", y -> y.delta(5, 0, 3), -1);
        refuses("to 5", y -> y.delta(0, 5, 3), -1);
        refuses("what 3", y -> y.delta(0, 0, 3), -2);
        refuses("what -1", y -> y.delta(0, 0, -1), -2);
    }

    static void p16_repacked() {
        ArchiveOfDeltas x = told(FIVE);
        due("cost", x.repacked(0), 27);
        due("depth", x.repacked(1), 1);
        due("whole", x.repacked(2), 2);
        bases("nothing is done", x, -9, -9, -9, -9, -9);
        x.kind(3, 0);
        due("depth by kin", x.repacked(1), 2);
        x.bound(0);
        due("cost by bound 0", x.repacked(0), 44);
        due("depth by bound 0", x.repacked(1), 0);
        due("whole by bound 0", x.repacked(2), 5);
        due("nothing", new ArchiveOfDeltas().repacked(2), 0);
        refuses("what 3", y -> y.repacked(3), -2);
        refuses("what -1", y -> y.repacked(-1), -2);
    }

    static void p17_best() {
        ArchiveOfDeltas x = told(FIVE);
        due("bound", x.best(0), 1);
        due("kind", x.best(1), 0);
        x.kind(3, 0);
        due("bound by kin", x.best(0), 2);
        x.bound(0);
        due("kind, bound 0: all alike", x.best(1), 0);
        due("bound stays", x.count(5), 0);
        due("kind stays", x.kind(3, 0), 30);
        x = told(CHAIN);
        due("bound of a chain", x.best(0), 3);
        x = told("v..aabbccddeeff;v..faaabbccddee;v..ddfaaabbccdd;", "v..baddfaaabbcc;v..cfbaddfaaabb;v..hfcfbaddfaaa;",
                "v..abhfcfbaddfa;v..hbabhfcfbadd;v..hehbabhfcfba;");
        due("bound of nine in a chain", x.best(0), 8);
        x.bound(8);
        due("depth of nine in a chain", x.repacked(1), 8);
        // plain 5, 5 and 7, longest and newest 9, 3 and 3
        x = told("v..abcd;v..efgh;v..abcdefgh;");
        due("plain", x.repacked(0), 17);
        due("longest", x.best(1), 1);
        x = told("v..abcd;v..efgh;v..abcdefgh;v..aabbcc;v..aabbcc;k23;");
        due("nothing is done", x.count(3), 0);
        due("longest", x.best(1), 1);
        due("nothing", new ArchiveOfDeltas().best(0), 0);
        refuses("what 2", y -> y.best(2), -2);
        refuses("what -1", y -> y.best(-1), -2);
    }

    static void p18_bestBase() {
        ArchiveOfDeltas x = told(FIVE);
        due("of 0", x.bestBase(0, 0), 3);
        due("of 0, cost", x.bestBase(0, 1), 3);
        due("of 2", x.bestBase(2, 0), 0);
        due("of 2, cost", x.bestBase(2, 1), 5);
        due("of 4", x.bestBase(4, 0), 0);
        due("of 4, cost as whole", x.bestBase(4, 1), 5);
        x = told("v..abcd;");
        due("alone", x.bestBase(0, 0), -9);
        due("alone", x.bestBase(0, 1), -9);
        x = told("v..ab;v..ab;h01;c;");
        due("but one gone", x.bestBase(1, 0), -9);
        refuses("5", y -> y.bestBase(5, 2), -1);
        refuses("what 2", y -> y.bestBase(0, 2), -2);
        refuses("what -1", y -> y.bestBase(0, -1), -2);
    }

    static void p19_reached() {
        ArchiveOfDeltas x = told(FAMILY);
        due("none", x.reached(0), 0);
        due("garbage", x.reached(1), 63);
        due("contents", x.reached(2), 4);
        x.heads(0, 1);
        due("1", x.reached(0), 3);
        x.heads(3, 5);
        due("1 and 5", x.reached(0), 3 + 48);
        due("garbage", x.reached(1), 12);
        due("gone", x.collect(), 2);
        due("contents", x.reached(2), 3);
        x.heads(0, -1);
        due("gone", x.collect(), 2);
        due("there alone", x.reached(0), 48);
        due("no garbage", x.reached(1), 0);
        due("contents", x.reached(2), 2);
        due("damage", x.damages(4, 1, 0), 1);
        due("edits", x.edits(4, 1, 8), 6);
        due("edits", x.edits(6, 1, 0), 7);
        due("contents as restored", x.reached(2), 3);
        refuses("what 3", y -> y.reached(3), -2);
        refuses("what -1", y -> y.reached(-1), -2);
    }

    static void p20_ancestors() {
        ArchiveOfDeltas x = told(FAMILY);
        int[] due = {0, 1, 1, 7, 0, 16};
        for (int v = 0; v < 6; v++) {
            due("of " + v, x.ancestors(v), due[v]);
        }
        x = told("v..a;v0.b;v..c;h02;", "c;");
        due("none", x.ancestors(2), 0);
        due("gone", x.ancestors(1), -1);
        refuses("5", y -> y.ancestors(5), -1);
        refuses("-1", y -> y.ancestors(-1), -1);
    }

    static void p21_common() {
        ArchiveOfDeltas x = told(FAMILY);
        due("1 2", x.common(1, 2), 0);
        due("3 2", x.common(3, 2), 2);
        due("2 3", x.common(2, 3), 2);
        due("3 3", x.common(3, 3), 3);
        due("0 3", x.common(0, 3), 0);
        due("5 3", x.common(5, 3), -9);
        due("5 4", x.common(5, 4), 4);
        refuses("5 0", y -> y.common(5, 0), -1);
        refuses("0 5", y -> y.common(0, 5), -1);
    }

    static void p22_generations() {
        ArchiveOfDeltas x = told("v..a;v0.b;v1.c;v20d;h03;h12;h20;");
        int[] due = {8, 8 + 4 + 1, 8 + 4 + 2 + 1, 15, 15};
        for (int n = 0; n < due.length; n++) {
            due("0, " + n, x.generations(0, n), due[n]);
        }
        due("1, 1", x.generations(1, 1), 6);
        due("1, 9", x.generations(1, 9), 7);
        due("2, 9", x.generations(2, 9), 1);
        due("of none", x.generations(3, 9), 0);
        refuses("4", y -> y.generations(4, -1), -1);
        refuses("-1", y -> y.generations(-1, 10), -1);
        refuses("n -1 of none", y -> y.generations(3, -1), -4);
        refuses("n 10", y -> y.generations(0, 10), -6);
    }

    static void p23_twin() {
        ArchiveOfDeltas x = told(PACKED);
        int[] due = {0, 1, 2, 0, 4};
        for (int v = 0; v < 5; v++) {
            due("of " + v, x.twin(v), due[v]);
        }
        x = told("v..ab;v..ab;v..aa;x001a;");
        due("as restored", x.twin(1), 1);
        due("as restored", x.twin(2), 0);
        x = told("v..ab;v..ab;h01;c;");
        due("there alone", x.twin(1), 1);
        refuses("5", y -> y.twin(5), -1);
        refuses("-1", y -> y.twin(-1), -1);
    }

    private static void fetchIs(ArchiveOfDeltas x, int h, int has, int sent, int cost, int whole) {
        due("sent " + h + " " + has, x.fetch(h, has, 0), sent);
        due("cost " + h + " " + has, x.fetch(h, has, 1), cost);
        due("whole " + h + " " + has, x.fetch(h, has, 2), whole);
    }

    static void p24_fetch() {
        ArchiveOfDeltas x = told(PACKED);
        fetchIs(x, 0, 0, 15, 10 + 4 + 5 + 3, 0);
        fetchIs(x, 1, 0, 7, 10 + 4 + 5, 0);
        fetchIs(x, 0, 1, 14, 4 + 5 + 3, 0);
        fetchIs(x, 0, 4, 8, 3, 0);
        fetchIs(x, 0, 8, 0, 0, 0);
        fetchIs(x, 0, 16, 15, 22, 0);
        fetchIs(x, 0, 1023 - 15, 15, 22, 0);
        fetchIs(x, 0, 1023, 0, 0, 0);
        fetchIs(x, 2, 0, 0, 0, 0);
        // 1 is stored by 0, but not its child: it is sent whole
        x = told("v..abcabcabc;v..abcabcabd;v1.abcabcabe;h02;r;");
        bases("ahead", x, -9, 0, 0);
        fetchIs(x, 0, 0, 6, 10 + 10, 2);
        fetchIs(x, 0, 1, 6, 4 + 4, 0);
        fetchIs(x, 0, 2, 4, 10, 1);
        fetchIs(x, 0, 3, 4, 4, 0);
        x = told("v..aabb;v..aabb;k20;r;h00;");
        fetchIs(x, 0, 0, 1, 5, 1);
        fetchIs(x, 0, 2, 1, 3, 0);
        // had, but gone: it counts with what is reached from it
        x = told("v..a;v0.b;v1.c;v..d;v0.e;h04;h13;c;");
        due("2 is gone", x.count(1), 25);
        fetchIs(x, 0, 4, 16, 2, 0);
        fetchIs(x, 0, 2, 16, 2, 0);
        fetchIs(x, 0, 8, 17, 4, 0);
        fetchIs(x, 0, 32, 17, 4, 0);
        refuses("head 4", y -> y.fetch(4, -1, 3), -1);
        refuses("has -1", y -> y.fetch(0, -1, 3), -4);
        refuses("has 1024", y -> y.fetch(0, 1024, 3), -6);
        refuses("what 3", y -> y.fetch(0, 0, 3), -2);
        refuses("what -1 of none", y -> y.fetch(2, 0, -1), -2);
    }

    static void p25_wrong() {
        ArchiveOfDeltas x = told(PACKED);
        due("none", x.wrong(), 0);
        x.damages(0, 0, 1);
        // 2 has "abcabc" of 0, from its first place on
        due("all by 0", x.wrong(), 15);
        x.damages(0, 0, 0);
        due("none", x.wrong(), 0);
        x.damages(0, 8, 3);
        // the last place is copied by 3 alone
        due("some", x.wrong(), 9);
        x.damages(4, 0, 0);
        due("and 4", x.wrong(), 25);
        due("4 goes", x.collect(), 1);
        due("there alone", x.wrong(), 9);
    }

    static void p26_hurt() {
        ArchiveOfDeltas x = told(PACKED);
        int[] due = {15, 2, 4, 8, 16};
        for (int v = 0; v < 5; v++) {
            due("by " + v, x.hurt(v), due[v]);
        }
        x = told(CHAIN, "r;");
        bases("chain", x, -9, 0, 1, 2);
        int[] chain = {15, 14, 12, 8};
        for (int v = 0; v < 4; v++) {
            due("in a chain, by " + v, x.hurt(v), chain[v]);
        }
        refuses("5", y -> y.hurt(5), -1);
        refuses("-1", y -> y.hurt(-1), -1);
    }

    static void p27_lost() {
        ArchiveOfDeltas x = told(PACKED);
        due("above", x.lost(0, 2, 0), 1);
        due("below", x.lost(0, 2, 1), 4);
        due("above, 20", x.lost(0, 20, 0), 19 * 19);
        due("below, 20", x.lost(0, 20, 1), 400);
        x.heads(3, 4);
        due("whole, above", x.lost(3, 3, 0), 2);
        due("whole, below", x.lost(3, 3, 1), 3);
        x = told("v..a;v..b;v..c;v..d;v..e;v..abab;v..abab;v..hh;", "h06;h17;h25;r;");
        due("6 is never lost", x.lost(0, 5, 0), 4);
        due("6 needs 5", x.lost(0, 5, 1), 5);
        due("7 needs itself alone", x.lost(1, 5, 0), 1);
        due("7, below", x.lost(1, 5, 1), 1);
        refuses("head 4", y -> y.lost(4, 0, 2), -1);
        refuses("head none", y -> y.lost(2, 1, 2), -3);
        refuses("t 1", y -> y.lost(0, 1, 2), -4);
        refuses("t 21", y -> y.lost(0, 21, 2), -6);
        refuses("part 2", y -> y.lost(0, 2, 2), -2);
        refuses("part -1", y -> y.lost(0, 2, -1), -2);
        due("told as", x.lost(-1, 0, 0), 4000000000000000001L);
        due("told as", x.lost(0, 1, 0), 4000000000000000004L);
    }

    static void p28_mean() {
        ArchiveOfDeltas x = told(PACKED);
        due("above", x.mean(0), 27);
        due("below", x.mean(1), 5);
        x = told("v..abc;v..ab;v..a;");
        due("least terms", x.mean(0), 3);
        due("least terms", x.mean(1), 1);
        x = told("v..abc;v..abc;v..ab;v..abc;v..ab;v..a;");
        due("least terms", x.mean(0), 10);
        due("least terms", x.mean(1), 3);
        due("0", new ArchiveOfDeltas().mean(0), 0);
        due("by 1", new ArchiveOfDeltas().mean(1), 1);
        refuses("part 2", y -> y.mean(2), -2);
        refuses("part -1", y -> y.mean(-1), -2);
        due("told as", x.mean(2), 4000000000000000002L);
    }

    static void p29_whatIs() {
        ArchiveOfDeltas x = told(FIVE);
        due("of none all", x.whatIs(0), 63);
        due("of none all", x.whatIs(1), 1023);
        rowOf(x, 10, 0, 0, 0, 10);
        due("plain, longest, thrift", x.whatIs(0), 1 + 2 + 16);
        due("by any figure", x.whatIs(1), 1023);
        due("it stays", x.count(6), 5);
        rowOf(x, 10, 0, 0, 0, 10, 11, 11, 11, 11, 11, 11, 11);
        due("none of more numbers is there", x.whatIs(0), 19);
        rowOf(x, 10, 0, 0, 0, 10, 11, 11, 11, 11, 11, 11, 10);
        due("number 11 is never there", x.whatIs(0), 0);
        rowOf(x, 1);
        due("kin alone", x.whatIs(0), 8);
        due("not plain", x.whatIs(1), 0);
        rowOf(x, 99);
        due("nothing", x.whatIs(0), 0);
        x.kind(4, 0);
        rowOf(x, 10, 0, 10, 0);
        due("thrift 4 and 5", x.whatIs(1), 16 + 32);
        due("thrift 0 is not", x.whatIs(0), 0);
        x.kind(0, 5);
        due("thrift 5", x.whatIs(0), 16);
        due("window 1", x.kind(5, 1), 5);
        rowOf(x, 10, 0, 3, 1, 10);
        due("window 1", x.whatIs(0), 32);
        due("window 1", x.whatIs(1), 2);
        x = told(FIVE + "c;");
        rowOf(x, 10, 0, 0, 0, 11);
        due("4 is not there", x.whatIs(0), 19);
        x.bound(0);
        due("bound as it is", x.whatIs(0), 0);
        refuses("what 2", y -> y.whatIs(2), -2);
        refuses("what -1", y -> y.whatIs(-1), -2);
    }

    static void p30_row() {
        ArchiveOfDeltas x = new ArchiveOfDeltas();
        due("0", x.row(0), 1);
        due("99", x.row(99), 2);
        due("100", x.row(100), -6);
        due("-1", x.row(-1), -4);
        for (int i = 3; i <= 12; i++) {
            due("row", x.row(i), i);
        }
        due("a 13th", x.row(0), -6);
        due("-1 as a 13th", x.row(-1), -4);
        due("how many", x.count(6), 12);
        due("below", x.count(14), 2);
        due("room", x.count(16), 2);
    }

    private static void judged(String text, int v, int want, int... numbers) {
        ArchiveOfDeltas x = told(text);
        rowOf(x, numbers);
        due("judge", x.judge(v), want);
        due("the row has none then", x.count(6), 0);
    }

    static void p31_judge() {
        judged("v..abcd;", 0, -9, 0, 1, 2, 3);
        judged("v..abcd;", 0, 0);
        judged("v..abcd;", 0, 3, 0, 1, 2);
        judged("v..abcd;", 0, 4, 0, 1, 2, 3, 0);
        judged("v..abcd;", 0, 4, 0, 1, 2, 3, 9, 9);
        judged("v..abcd;", 0, 2, 0, 1, 3, 3, 9, 9);
        judged("v..abcd;", 0, 0, 1);
        judged("v..abcdefghabcd;", 0, -9, 0, 1, 2, 3, 4, 5, 6, 7, 0, 1, 2, 3);
        judged("v..aabb;v..aabb;r;x001h;", 1, -9, 0, 7, 1, 1);
        judged("v..aabb;v..aabb;r;x001h;", 1, 1, 0, 0, 1, 1);
        refuses("5", y -> y.judge(5), -1);
        refuses("-1", y -> y.judge(-1), -1);
    }

    static void p32_clear() {
        ArchiveOfDeltas x = new ArchiveOfDeltas();
        due("none", x.clear(), 0);
        rowOf(x, 1, 2, 3);
        due("three", x.clear(), 3);
        due("none", x.clear(), 0);
        due("none", x.count(6), 0);
        due("from the first on", x.row(7), 1);
    }

    static void p33_lots() {
        ArchiveOfDeltas x = new ArchiveOfDeltas();
        due("a alone, five edits of it", x.lots(1, 7, 0), 12);
        due("five lots", x.lots(5, 7, 0), 60);
        due("five lots, whole", x.lots(5, 7, 1), 30);
        due("nothing has come", x.count(0), 0);
        // one edit with room for one: 1013904223 by 256 is 3960563, modulo 9 that is 5; then place 9, letter g
        x = told("v..abababababab;".repeat(5), "v..abababababab;".repeat(4));
        due("abababababgab is by 9, g and 2", x.lots(1, 0, 0), 13 + 8 * 3 + 6);
        // the draws go on from lot to lot: place 1, letter g
        due("agababababab is by a, g and 10", x.lots(1, -775096599, 0), 13 + 8 * 3 + 5);
        due("both", x.lots(2, 0, 0), 43 + 42);
        due("whole", x.lots(20, 3, 1), 20);
        due("nothing has come", x.count(0), 9);
        // of 3 (a) and 7, that are there, the draw 1 is 7; of cdcdcdcdcgcd from it 9, g and 2 again
        x = told("v..a;".repeat(7) + "v..cdcdcdcdcdcd;v..a;h03;h17;c;");
        due("by numbers of those there", x.lots(1, 0, 0), 2 + 13 + 6);
        x = told("v..a;".repeat(10), "h00;c;");
        due("no room: the ones there alone", x.lots(3, 1, 0), 6);
        due("gone", x.heads(0, -1), 0);
        due("gone", x.collect(), 1);
        due("no room, none there", x.lots(20, -1, 0), 0);
        x = told("v..a;".repeat(9), "c;");
        due("room for a alone", x.lots(20, 5, 0), 40);
        due("whole", x.lots(20, 5, 1), 20);
        refuses("0", y -> y.lots(0, 0, 2), -4);
        refuses("21", y -> y.lots(21, 0, 2), -6);
        refuses("what 2", y -> y.lots(20, 0, 2), -2);
        refuses("what -1", y -> y.lots(1, 0, -1), -2);
    }

    static void p34_image() {
        ArchiveOfDeltas x = new ArchiveOfDeltas();
        due("none there", x.image(), 0);
        tell(x, PACKED);
        due("five there", x.image(), 5);
        due("one goes", x.collect(), 1);
        due("on", x.on(), 5);
        due("all is as then", x.count(2), 27);
        x.collect();
        due("four there", x.image(), 4);
        due("on from the later one", x.on(), 4);
    }

    static void p35_on() {
        ArchiveOfDeltas x = told(PACKED);
        due("there is none", x.on(), -3);
        due("state", x.count(13), 1);
        x.kind(4, 2);
        x.bound(7);
        String before = seen(x);
        due("image", x.image(), 5);
        x.row(5);
        x.letter('r');
        x.damages(0, 0, 7);
        x.edits(0, 0, 1);
        x.heads(0, 4);
        x.heads(3, 4);
        x.kind(0, 0);
        x.bound(1);
        x.repack();
        x.collect();
        due("on", x.on(), 5);
        due("the row is not of it", x.clear(), 1);
        due("letters are not of it", x.count(7), 1);
        due("refusals are not of it", x.count(13), 1);
        due("they come", x.letter(';'), 2);
        x.clear();
        due("on once more", x.on(), 5);
        x.letter('d');
        due("a fault empties", x.archive(), -1003);
        due("as then", seen(x).equals(before) ? 1 : 0, 1);
        due("numbers go on as then", x.edits(0, 0, 1), 5);
        due("an image of its own", x.on(), 5);
        due("as then", seen(x).equals(before) ? 1 : 0, 1);
    }

    static void p36_count() {
        ArchiveOfDeltas x = told(PACKED + "c;", "v..ab;");
        x.row(1);
        x.letter('a');
        x.letter('b');
        int[] due = {6, 47, 25, 1, 33, 4, 1, 2};
        for (int what = 0; what < due.length; what++) {
            due("count(" + what + ")", x.count(what), due[what]);
        }
        due("0 alone is deepest", told("v..aabb;v..aabb;k20;r;").count(3), 1);
        int[] others = {-1, 8, 9, 10, 17, Integer.MIN_VALUE, Integer.MAX_VALUE};
        for (int what : others) {
            due("count(" + what + ")", x.count(what), -9);
        }
        x.twin(9);
        x.spelt(0, 99);
        x.best(2);
        x.merges(1, 1);
        x.lost(0, 1, 0);
        x.mean(3);
        x.row(100);
        x.row(100);
        x.row(100);
        int[] refused = {2, 2, 1, 1, 0, 3};
        for (int i = 0; i < 6; i++) {
            due("count(" + (11 + i) + ")", x.count(11 + i), refused[i]);
        }
    }
}
