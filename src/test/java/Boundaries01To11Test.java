/** Each sentence of promises 1 to 11 that names a boundary, a test each, named by its promise. */
public final class Boundaries01To11Test extends Due {
    /** 0 whole of twelve letters, 1 of eleven, 2 of one, 3 of two. */
    private static final String SIZES = "v..abcdefghabcd;v..abcdefghabc;v..a;v..ab;";
    /** Nine there, room for one more. */
    private static final String NINE = "v..a;".repeat(9);
    /** Ten came, one is there: no room all the same. */
    private static final String TEN_CAME = "v..ab;" + "v..a;".repeat(9) + "h00;c;";

    public static void main(String[] args) throws Exception {
        System.exit(allHold(Boundaries01To11Test.class, 1, 11) ? 0 : 1);
    }

    // ---- promise 1 ----

    static void p01_noVersionsHaveCome() {
        ArchiveOfDeltas x = new ArchiveOfDeltas();
        due("came", x.count(0), 0);
        due("there", x.count(1), 0);
        due("cost of all", x.count(2), 0);
        due("greatest depth", x.count(3), 0);
        due("whole", x.count(4), 0);
        for (int v = 0; v <= 9; v++) {
            due("version " + v, x.version(v, 0), -1);
        }
        due("the first number", x.edits(0, 0, 0), -1);
        due("the first number", tell(x, "v..a;"), 1);
        due("the first number is 0", x.count(1), 1);
    }

    static void p01_noHeads() {
        ArchiveOfDeltas x = new ArchiveOfDeltas();
        for (int h = 0; h <= 3; h++) {
            due("generations", x.generations(h, 9), 0);
            due("head " + h, x.heads(h, -1), -9);
        }
    }

    static void p01_plainWithFigureZero() {
        due("repacker", new ArchiveOfDeltas().kind(5, 5), 0);
    }

    static void p01_boundFour() {
        due("bound", new ArchiveOfDeltas().bound(0), 4);
        due("count", new ArchiveOfDeltas().count(5), 4);
    }

    static void p01_noImageNoRowNoLettersNoRefusals() {
        ArchiveOfDeltas x = new ArchiveOfDeltas();
        due("in the row", x.count(6), 0);
        due("letters", x.count(7), 0);
        refused(x, 0, 0, 0, 0, 0, 0);
        due("on", x.on(), -3);
    }

    static void p01_allAnswersOfNothing() {
        ArchiveOfDeltas x = new ArchiveOfDeltas();
        due("repack", x.repack(), 0);
        due("collect", x.collect(), 0);
        for (int what = 0; what <= 2; what++) {
            due("repacked " + what, x.repacked(what), 0);
            due("reached " + what, x.reached(what), 0);
            due("fetch " + what, x.fetch(0, 1023, what), 0);
        }
        due("bound best", x.best(0), 0);
        due("kind best", x.best(1), 0);
        due("wrong", x.wrong(), 0);
        due("mean", x.mean(0), 0);
        due("mean", x.mean(1), 1);
        due("clear", x.clear(), 0);
        due("image", x.image(), 0);
        refused(x, 0, 0, 0, 0, 0, 0);
    }

    static void p01_oneObjectIsNotAnother() {
        ArchiveOfDeltas x = told(PACKED);
        x.image();
        x.kind(5, 9);
        x.bound(8);
        x.row(1);
        x.letter('v');
        x.mean(2);
        ArchiveOfDeltas y = new ArchiveOfDeltas();
        due("came", y.count(0), 0);
        due("row", y.count(6), 0);
        due("letters", y.count(7), 0);
        due("bound", y.count(5), 4);
        due("kind", y.kind(0, 0), 0);
        due("head", y.heads(0, -1), -9);
        due("on", y.on(), -3);
        refused(y, 0, 0, 1, 0, 0, 0);
        due("of the first nothing changes", x.count(0), 5);
    }

    // ---- promise 2 ----

    static void p02_zeroIsTheLeastLetter() {
        due("0", new ArchiveOfDeltas().letter(0), 1);
    }

    static void p02_belowTheLeastLetter() {
        refuses("-1", x -> x.letter(-1), -4);
        refuses("the least int", x -> x.letter(LEAST), -4);
    }

    static void p02_255IsTheGreatestLetter() {
        due("255", new ArchiveOfDeltas().letter(255), 1);
    }

    static void p02_aboveTheGreatestLetter() {
        refuses("256", x -> x.letter(256), -6);
        refuses("the greatest int", x -> x.letter(GREATEST), -6);
    }

    static void p02_the96thIsTaken() {
        ArchiveOfDeltas x = new ArchiveOfDeltas();
        for (int i = 1; i <= 96; i++) {
            due("a letter", x.letter(i % 2 == 1 ? 'r' : ';'), i);
        }
        due("letters", x.count(7), 96);
        due("48 statements", x.archive(), 48);
    }

    static void p02_the97thIsRefused() {
        ArchiveOfDeltas x = new ArchiveOfDeltas();
        for (int i = 1; i <= 96; i++) {
            x.letter(i % 2 == 1 ? 'c' : ';');
        }
        due("a 97th", x.letter('c'), -6);
        due("and again", x.letter(0), -6);
        due("letters", x.count(7), 96);
        refused(x, 0, 0, 0, 0, 0, 2);
        due("it is not among them", x.archive(), 48);
    }

    static void p02_belowIsToldAheadOfRoom() {
        ArchiveOfDeltas x = new ArchiveOfDeltas();
        for (int i = 1; i <= 96; i++) {
            x.letter('r');
        }
        due("-1 as a 97th", x.letter(-1), -4);
        refused(x, 0, 0, 0, 1, 0, 0);
        due("256 as a 97th is one refusal", x.letter(256), -6);
        refused(x, 0, 0, 0, 1, 0, 1);
    }

    static void p02_thereIsRoomAgainBehindAnArchive() {
        ArchiveOfDeltas x = new ArchiveOfDeltas();
        for (int i = 1; i <= 96; i++) {
            x.letter(255);
        }
        due("fault", x.archive(), -1000);
        for (int i = 1; i <= 96; i++) {
            due("a letter", x.letter('r'), i);
        }
        due("a 97th", x.letter('r'), -6);
    }

    // ---- promise 3: the form ----

    static void p03_theEmptyText() {
        ArchiveOfDeltas x = new ArchiveOfDeltas();
        due("of a new object", x.archive(), -1000);
        due("and again", x.archive(), -1000);
        comes(x, "v..a;");
        due("behind an archive", x.archive(), -1000);
        due("behind a fault", tell(x, "q") * 10 + x.archive(), -11000);
    }

    static void p03_oneStatementIsEnough() {
        for (String text : new String[] {"v..a;", "h0.;", "k00;", "d0;", "r;", "c;"}) {
            due(text, tell(new ArchiveOfDeltas(), text), 1);
        }
        due("x", tell(told("v..a;"), "x000a;"), 1);
    }

    static void p03_96LettersAreAnArchive() {
        ArchiveOfDeltas x = told("v..abcdefgh;".repeat(8));
        due("came", x.count(0), 8);
        spelled(x, 7, "abcdefgh");
    }

    static void p03_96LettersWithAFaultAtTheEnd() {
        due("the end lacks something", tell(new ArchiveOfDeltas(), "r;".repeat(47) + "d4"), -1096);
        due("the last letter is at 95", tell(new ArchiveOfDeltas(), "r;".repeat(47) + "r."), -1095);
        due("in the last statement", tell(new ArchiveOfDeltas(), "r;".repeat(46) + "d9d;"), -1094);
        due("the last statement's sense", tell(new ArchiveOfDeltas(), "r;".repeat(45) + "d4;d9;"), -2093);
    }

    static void p03_everySignAtTheFirstPlace() {
        for (int sign = 0; sign <= 255; sign++) {
            ArchiveOfDeltas x = new ArchiveOfDeltas();
            x.letter(sign);
            due("sign " + sign, x.archive(), "vhkdrcx".indexOf(sign) >= 0 ? -1001 : -1000);
        }
    }

    /** A form has at each place a sign for what may stand there: 0 a digit, . a digit or a point, a a letter. */
    private static boolean mayStand(char form, int sign) {
        switch (form) {
            case '0': return "0123456789".indexOf(sign) >= 0;
            case '.': return "0123456789.".indexOf(sign) >= 0;
            case 'a': return "abcdefgh".indexOf(sign) >= 0;
            case '+': return "abcdefgh;".indexOf(sign) >= 0;
            default: return sign == form;
        }
    }

    private static void everySign(String form, String text) {
        for (int place = 1; place < text.length(); place++) {
            for (int sign = 0; sign <= 255; sign++) {
                if (!mayStand(form.charAt(place), sign)) {
                    ArchiveOfDeltas x = told("v..abc;");
                    String wrong = "r;" + text.substring(0, place) + (char) sign + text.substring(place + 1);
                    due("sign " + sign + " at " + place + " of " + text, tell(x, wrong), -1000 - 2 - place);
                    due("and without the rest", tell(x, wrong.substring(0, 3 + place)), -1000 - 2 - place);
                    due("came", x.count(0), 1);
                }
            }
        }
    }

    static void p03_everySignAtEveryPlaceOfV() {
        everySign("v..a++", "v0.ab;");
    }

    static void p03_everySignAtEveryPlaceOfH() {
        everySign("h0.;", "h00;");
    }

    static void p03_everySignAtEveryPlaceOfK() {
        everySign("k00;", "k12;");
    }

    static void p03_everySignAtEveryPlaceOfD() {
        everySign("d0;", "d3;");
    }

    static void p03_everySignAtEveryPlaceOfR() {
        everySign("r;", "r;");
    }

    static void p03_everySignAtEveryPlaceOfC() {
        everySign("c;", "c;");
    }

    static void p03_everySignAtEveryPlaceOfX() {
        everySign("x000a;", "x001b;");
    }

    static void p03_theEndWhereSomethingLacks() {
        for (String text : new String[] {"v01abcdefghabcd;", "h3.;", "k59;", "d8;", "r;", "c;", "x901h;"}) {
            for (int many = 1; many < text.length(); many++) {
                String part = text.substring(0, many);
                due(part, tell(new ArchiveOfDeltas(), part), -1000 - many);
                due("c;" + part, tell(new ArchiveOfDeltas(), "c;" + part), -1002 - many);
            }
        }
    }

    static void p03_oneToTwelveLetters() {
        for (int many = 1; many <= 12; many++) {
            ArchiveOfDeltas x = told("v..abcdefghabcd".substring(0, 3 + many) + ";");
            due("letters", x.version(0, 0), many);
        }
        due("none", tell(new ArchiveOfDeltas(), "v..;"), -1003);
        due("a 13th", tell(new ArchiveOfDeltas(), "v..abcdefghabcda;"), -1015);
        due("more", tell(new ArchiveOfDeltas(), "v..abcdefghabcdabcd;"), -1015);
    }

    static void p03_lettersAToH() {
        spelled(told("v..aaaaahhhhh;"), 0, "aaaaahhhhh");
        due("ahead of a", tell(new ArchiveOfDeltas(), "v..`;"), -1003);
        due("behind h", tell(new ArchiveOfDeltas(), "v..i;"), -1003);
        due("behind h, later", tell(new ArchiveOfDeltas(), "v..aahi;"), -1006);
    }

    static void p03_aStatementMoreThanTheText() {
        due("a second end", tell(new ArchiveOfDeltas(), "r;;"), -1002);
        due("an end alone", tell(new ArchiveOfDeltas(), ";"), -1000);
        due("a blank behind", tell(new ArchiveOfDeltas(), "r; "), -1002);
        due("a sign of no end", tell(new ArchiveOfDeltas(), "r;\0"), -1002);
    }

    // ---- promise 3: the sense ----

    private static void fault(String ahead, String text, int due) {
        ArchiveOfDeltas x = ahead.isEmpty() ? new ArchiveOfDeltas() : told(ahead);
        String before = seen(x);
        due("fault of " + text, tell(x, text), due);
        sees("with a fault nothing comes", x, before);
        due("letters are no more", x.count(7), 0);
        refused(x, 0, 0, 0, 0, 0, 0);
    }

    static void p03_headsZeroToThree() {
        ArchiveOfDeltas x = told("v..a;h00;h10;h20;h30;");
        for (int h = 0; h <= 3; h++) {
            due("head " + h, x.heads(h, -1), 0);
        }
        fault("v..a;", "h40;", -2000);
        fault("v..a;", "h4.;", -2000);
        fault("v..a;", "h90;", -2000);
    }

    static void p03_aHeadOfNoneThere() {
        fault("", "h00;", -2000);
        fault("v..a;", "h01;", -2000);
        fault("v..a;", "h09;", -2000);
        fault(ONE_GONE, "r;h00;", -2002);
        due("none is no fault", tell(new ArchiveOfDeltas(), "h3.;h3.;"), 2);
    }

    static void p03_kindsZeroToFive() {
        for (int kind = 0; kind <= 5; kind++) {
            due("kind " + kind, tell(new ArchiveOfDeltas(), "k" + kind + "0;"), 1);
        }
        for (int kind = 6; kind <= 9; kind++) {
            fault("", "k" + kind + "0;", -2000);
        }
    }

    static void p03_figuresZeroToNine() {
        for (int figure = 0; figure <= 9; figure++) {
            ArchiveOfDeltas x = told("k4" + figure + ";");
            due("figure", x.kind(0, 0), 40 + figure);
        }
    }

    static void p03_boundsZeroToEight() {
        for (int bound = 0; bound <= 8; bound++) {
            due("bound", told("d" + bound + ";").count(5), bound);
        }
        fault("", "d9;", -2000);
    }

    static void p03_parentsThere() {
        fault("", "v0.a;", -2000);
        fault("v..a;", "v1.a;", -2000);
        fault("v..a;", "v9.a;", -2000);
        fault("v..a;", "v01a;", -2000);
        fault(ONE_GONE, "v0.a;", -2000);
        fault(ONE_GONE, "v10a;", -2000);
        ArchiveOfDeltas x = told("v..a;v..b;", "v0.a;", "v10a;v01a;");
        due("the greater one first", x.version(3, 1), 1);
        due("the lesser one then", x.version(3, 2), 0);
        due("the lesser one first", x.version(4, 1), 0);
        due("the greater one then", x.version(4, 2), 1);
    }

    static void p03_oneTwiceAsParents() {
        fault("v..a;v..b;", "v11a;", -2000);
        fault("v..a;", "r;v00a;", -2002);
        due("none and none are no twice", tell(new ArchiveOfDeltas(), "v..a;"), 1);
    }

    static void p03_aSecondParentWithoutAFirst() {
        fault("v..a;", "v.0a;", -2000);
        due("a first without a second", tell(told("v..a;"), "v0.a;"), 1);
    }

    static void p03_theTenthAndTheEleventh() {
        due("a tenth", tell(told(NINE), "v..a;"), 1);
        fault(NINE, "v..a;v..a;", -2005);
        fault(FULL, "v..a;", -2000);
        fault(TEN_CAME, "v0.a;", -2000);
    }

    static void p03_damageOfOneThereAndWhole() {
        fault("", "x000a;", -2000);
        fault("v..a;", "x100b;", -2000);
        fault(ONE_GONE, "x000b;", -2000);
        fault("v..aabb;v..aabb;r;", "x100b;", -2000);
        due("the whole one", tell(told("v..aabb;v..aabb;r;"), "x000b;"), 1);
    }

    static void p03_damageAtAPlaceOfIt() {
        ArchiveOfDeltas x = told(SIZES, "x000h;x011h;x110h;x200h;x301h;");
        spelled(x, 0, "hbcdefghabch");
        spelled(x, 1, "abcdefghabh");
        spelled(x, 2, "h");
        spelled(x, 3, "ah");
        fault(SIZES, "x012h;", -2000);
        fault(SIZES, "x111h;", -2000);
        fault(SIZES, "x201h;", -2000);
        fault(SIZES, "x302h;", -2000);
        fault(SIZES, "x099h;", -2000);
    }

    static void p03_theSameLetterIsDamage() {
        ArchiveOfDeltas x = told("v..ab;", "x000a;x001h;");
        spelled(x, 0, "ah");
        due("a hash stays", x.version(0, 6), hash("ab"));
    }

    static void p03_behindStatementsThatAreAsTheyMustBe() {
        fault("v..a;", "v..b;h01;k59;d8;r;c;x100c;h00;", -2000 - 26);
        fault("", "r;r;r;d9;", -2006);
        fault("", "d9;k90;h90;", -2000);
        fault("", "d8;k90;d9;", -2003);
    }

    static void p03_whatIsAheadInTheTextCounts() {
        ArchiveOfDeltas x = told("v..abab;v0.abab;v01ababab;h02;h01;x100c;k21;d7;r;");
        due("came", x.count(0), 3);
        fault("v..a;", "c;x000b;", -2002);
        fault("v..abab;v..abab;", "r;x100b;", -2002);
        comes(x, "h01;c;");
        due("there", x.count(1), 3);
        due("whole again by what goes", tell(told("v..aabb;v..aabb;h01;r;"), "v..c;h00;c;"), 3);
        x = told("v..aabb;v..aabb;h01;r;", "c;x100h;");
        spelled(x, 1, "habb");
    }

    static void p03_kindOneIsToldAheadOfKindTwo() {
        fault("", "d9;r", -1004);
        fault("", "h00;v0.a;q", -1009);
        fault("", "d9;;", -1003);
        fault("", "v..a;".repeat(11) + "d", -1056);
        due("an 11th at its place", tell(new ArchiveOfDeltas(), "v..a;".repeat(11) + "d;"), -1056);
    }

    static void p03_allOfItComesOrNothing() {
        fault(PACKED, "v..a;h0.;h14;k59;d0;x000h;r;c;d9;", -2000 - 30);
        fault(PACKED, "v..a;h0.;h14;k59;d0;x000h;r;c;d", -1031);
    }

    static void p03_lettersAreNoMore() {
        ArchiveOfDeltas x = new ArchiveOfDeltas();
        due("an archive", tell(x, "r;"), 1);
        due("none left", x.count(7), 0);
        due("a fault", tell(x, "r;q"), -1002);
        due("none left", x.count(7), 0);
        due("another fault", tell(x, "d9;"), -2000);
        due("none left", x.count(7), 0);
        due("the first again", x.letter('c'), 1);
        refused(x, 0, 0, 0, 0, 0, 0);
    }

    static void p03_theRowStays() {
        ArchiveOfDeltas x = new ArchiveOfDeltas();
        x.row(7);
        tell(x, "v..a;");
        tell(x, "q");
        due("in the row", x.count(6), 1);
    }

    // ---- promise 4 ----

    static void p04_theFirstPlaceAndAheadOfIt() {
        ArchiveOfDeltas x = told(SIZES);
        due("place 0", x.edits(3, 0, 7), 4);
        spelled(x, 4, "hb");
        refuses(SIZES, "place -1", y -> y.edits(3, -1, 7), -1);
        refuses(SIZES, "the least place", y -> y.edits(3, LEAST, 7), -1);
    }

    static void p04_theLastPlaceTheOneBehindAndTheNext() {
        ArchiveOfDeltas x = told(SIZES);
        due("the last place", x.edits(3, 1, 7), 4);
        spelled(x, 4, "ah");
        due("behind the last", x.edits(3, 2, 7), 5);
        spelled(x, 5, "abh");
        refuses(SIZES, "one further", y -> y.edits(3, 3, 7), -1);
        refuses(SIZES, "the greatest place", y -> y.edits(3, GREATEST, 7), -1);
        refuses(SIZES, "place 13 of twelve", y -> y.edits(0, 13, 7), -1);
    }

    static void p04_lettersZeroToEight() {
        ArchiveOfDeltas x = told(SIZES);
        due("letter 0", x.edits(3, 1, 0), 4);
        spelled(x, 4, "aa");
        due("letter 7", x.edits(3, 1, 7), 5);
        spelled(x, 5, "ah");
        due("letter 8", x.edits(3, 1, 8), 6);
        spelled(x, 6, "a");
        refuses(SIZES, "letter -1", y -> y.edits(3, 1, -1), -2);
        refuses(SIZES, "letter 9", y -> y.edits(3, 1, 9), -2);
        refuses(SIZES, "the least letter", y -> y.edits(3, 1, LEAST), -2);
        refuses(SIZES, "the greatest letter", y -> y.edits(3, 1, GREATEST), -2);
    }

    static void p04_oneLetterMustBeLeft() {
        ArchiveOfDeltas x = told(SIZES);
        due("one of two", x.edits(3, 0, 8), 4);
        spelled(x, 4, "b");
        due("of one", x.edits(4, 0, 8), -3);
        refuses(SIZES, "none would be left", y -> y.edits(2, 0, 8), -3);
    }

    static void p04_leftOutAtEachPlace() {
        ArchiveOfDeltas x = told("v..abc;");
        due("the first", x.edits(0, 0, 8), 1);
        spelled(x, 1, "bc");
        due("the second", x.edits(0, 1, 8), 2);
        spelled(x, 2, "ac");
        due("the last", x.edits(0, 2, 8), 3);
        spelled(x, 3, "ab");
        due("of twelve", told(SIZES).edits(0, 11, 8), 4);
    }

    static void p04_nothingIsLeftOutBehindTheLast() {
        refuses(SIZES, "behind two", y -> y.edits(3, 2, 8), -3);
        refuses(SIZES, "behind one", y -> y.edits(2, 1, 8), -3);
        refuses(SIZES, "behind twelve", y -> y.edits(0, 12, 8), -3);
    }

    static void p04_theTwelfthLetterAndThe13th() {
        ArchiveOfDeltas x = told(SIZES);
        due("a 12th", x.edits(1, 11, 7), 4);
        spelled(x, 4, "abcdefghabch");
        due("another as the 12th", x.edits(0, 11, 7), 5);
        spelled(x, 5, "abcdefghabch");
        refuses(SIZES, "a 13th", y -> y.edits(0, 12, 7), -6);
    }

    static void p04_theTenthVersionAndThe11th() {
        due("the tenth", told(NINE).edits(8, 0, 1), 9);
        refuses(FULL, "an 11th", y -> y.edits(9, 0, 1), -6);
        refuses(FULL, "an 11th, longer", y -> y.edits(9, 1, 1), -6);
        refuses(TEN_CAME, "numbers of those gone are not used again", y -> y.edits(0, 0, 1), -6);
        refuses(TEN_CAME, "nor shorter", y -> y.edits(0, 0, 8), -6);
    }

    static void p04_noSuchVersionThere() {
        refuses(SIZES, "the next number", y -> y.edits(4, 0, 0), -1);
        refuses(SIZES, "-1", y -> y.edits(-1, 0, 0), -1);
        refuses(SIZES, "the least int", y -> y.edits(LEAST, 0, 0), -1);
        refuses(SIZES, "the greatest int", y -> y.edits(GREATEST, 0, 0), -1);
        refuses(SIZES, "32 is not 0", y -> y.edits(32, 0, 0), -1);
        refuses(FULL, "10", y -> y.edits(10, 0, 0), -1);
        refuses(ONE_GONE, "one gone", y -> y.edits(0, 0, 0), -1);
        refuses("", "of none", y -> y.edits(0, 0, 0), -1);
    }

    static void p04_twoRefusalsAtOnce() {
        refuses(SIZES, "version and letter: nobody", y -> y.edits(4, 0, 9), -1);
        refuses(SIZES, "place and letter: nobody", y -> y.edits(3, 3, 9), -1);
        refuses(SIZES, "place and left out: nobody", y -> y.edits(2, 2, 8), -1);
        refuses(FULL, "version and room: nobody", y -> y.edits(10, 0, 0), -1);
        refuses(FULL, "place and room: nobody", y -> y.edits(0, 2, 0), -1);
        refuses(FULL, "letter and room: other", y -> y.edits(0, 0, 9), -2);
        refuses(SIZES, "letter and a 13th: other", y -> y.edits(0, 12, -1), -2);
        refuses(FULL, "none left and room: state", y -> y.edits(0, 0, 8), -3);
        refuses(FULL, "left out behind the last and room: state", y -> y.edits(0, 1, 8), -3);
        refuses(SIZES, "left out behind the 12th: state", y -> y.edits(0, 12, 8), -3);
        refuses("v..abcdefghabcd;" + NINE, "a 13th and an 11th: room, once", y -> y.edits(0, 12, 0), -6);
    }

    static void p04_theSameLetterIsAnEdit() {
        ArchiveOfDeltas x = told("v..ab;");
        due("the same", x.edits(0, 1, 1), 1);
        spelled(x, 1, "ab");
        due("its parent", x.version(1, 1), 0);
        due("its twin", x.twin(1), 0);
    }

    static void p04_theNewOneComesWholeWithOneParent() {
        ArchiveOfDeltas x = told("v..aabb;v..aabb;v..aabb;h02;r;x000h;");
        due("edited", x.edits(1, 3, 2), 3);
        spelled(x, 3, "habc");
        due("first parent", x.version(3, 1), 1);
        due("second parent", x.version(3, 2), -9);
        due("whole", x.version(3, 3), -9);
        due("depth", x.version(3, 4), 0);
        due("cost", x.version(3, 5), 5);
        due("hash of its letters as they came", x.version(3, 6), hash("habc"));
        due("sound", x.version(3, 7), 1);
        due("a head does not follow", x.heads(0, 2), 2);
    }

    // ---- promise 5 ----

    static void p05_noSuchVersionEither() {
        refuses("a: the next number", y -> y.merges(5, 0), -1);
        refuses("b: the next number", y -> y.merges(0, 5), -1);
        refuses("a: -1", y -> y.merges(-1, 0), -1);
        refuses("b: -1 is no none", y -> y.merges(0, -1), -1);
        refuses("a: the least", y -> y.merges(LEAST, 0), -1);
        refuses("b: the greatest", y -> y.merges(0, GREATEST), -1);
        refuses(ONE_GONE, "a: gone", y -> y.merges(0, 1), -1);
        refuses(ONE_GONE, "b: gone", y -> y.merges(1, 0), -1);
        refuses("both, counted once", y -> y.merges(7, 8), -1);
    }

    static void p05_oneTwice() {
        refuses("0 twice", y -> y.merges(0, 0), -3);
        refuses("4 twice", y -> y.merges(4, 4), -3);
        ArchiveOfDeltas x = told("v..a;v..a;");
        due("two of the same letters are two", x.merges(0, 1), 2);
    }

    static void p05_theTenthAndThe11th() {
        ArchiveOfDeltas x = told(NINE);
        due("the tenth", x.merges(0, 8), 9);
        due("an 11th", x.merges(0, 9), -6);
        refuses(FULL, "an 11th", y -> y.merges(0, 9), -6);
        refuses("v..a;v..a;" + "v..a;".repeat(8) + "h00;h11;c;", "numbers are not used again", y -> y.merges(0, 1), -6);
    }

    static void p05_twoRefusalsAtOnce() {
        refuses("none there twice: nobody", y -> y.merges(5, 5), -1);
        refuses(FULL, "none there and room: nobody", y -> y.merges(10, 0), -1);
        refuses(FULL, "one twice and room: state", y -> y.merges(3, 3), -3);
        refuses(FULL, "none there, twice, and room: nobody", y -> y.merges(-1, -1), -1);
    }

    static void p05_parentsInTheirOrder() {
        ArchiveOfDeltas x = told(PACKED);
        due("the greater first", x.merges(4, 0), 5);
        due("first", x.version(5, 1), 4);
        due("second", x.version(5, 2), 0);
        spelled(x, 5, "hgfe");
        due("the lesser first", x.merges(0, 4), 6);
        due("first", x.version(6, 1), 0);
        due("second", x.version(6, 2), 4);
        due("its own ancestor", x.merges(6, 0), 7);
        spelled(x, 7, "abcabcabc");
    }

    static void p05_lettersAsRestoredComeSound() {
        ArchiveOfDeltas x = told("v..aabb;v..aabb;r;x000h;");
        due("merged", x.merges(1, 0), 2);
        spelled(x, 2, "habb");
        due("whole", x.version(2, 3), -9);
        due("hash of its own", x.version(2, 6), hash("habb"));
        due("wrong are the first two", x.wrong(), 3);
    }

    // ---- promise 6 ----

    static void p06_headsZeroToThree() {
        ArchiveOfDeltas x = told("v..a;v..b;");
        for (int h = 0; h <= 3; h++) {
            due("head " + h, x.heads(h, 1), -9);
            due("then", x.heads(h, 0), 1);
        }
        refuses("head -1", y -> y.heads(-1, 0), -1);
        refuses("head 4", y -> y.heads(4, 0), -1);
        refuses("the least head", y -> y.heads(LEAST, 0), -1);
        refuses("the greatest head", y -> y.heads(GREATEST, 0), -1);
    }

    static void p06_versionsThereOrNone() {
        ArchiveOfDeltas x = told(PACKED);
        due("the first number", x.heads(2, 0), -9);
        due("the last number", x.heads(2, 4), 0);
        due("none", x.heads(2, -1), 4);
        due("none again", x.heads(2, -1), -9);
        refuses("the next number", y -> y.heads(2, 5), -1);
        refuses("-2", y -> y.heads(2, -2), -1);
        refuses("-9 is no none", y -> y.heads(2, -9), -1);
        refuses("the least", y -> y.heads(2, LEAST), -1);
        refuses("the greatest", y -> y.heads(2, GREATEST), -1);
        refuses(ONE_GONE, "one gone", y -> y.heads(2, 0), -1);
        refuses(FULL, "10", y -> y.heads(0, 10), -1);
    }

    static void p06_versionNineOfTen() {
        ArchiveOfDeltas x = told(FULL);
        due("9", x.heads(3, 9), -9);
        due("then", x.heads(3, -1), 9);
    }

    static void p06_bothAreOneRefusal() {
        refuses("head and version", y -> y.heads(4, 5), -1);
        refuses("head, and none", y -> y.heads(4, -1), -1);
    }

    static void p06_nothingGoesByAHead() {
        ArchiveOfDeltas x = told(PACKED);
        due("none", x.heads(0, -1), 3);
        due("none", x.heads(1, -1), 2);
        due("all are there", x.count(1), 31);
    }

    // ---- promise 7 ----

    static void p07_kindsZeroToFive() {
        ArchiveOfDeltas x = new ArchiveOfDeltas();
        for (int kind = 0; kind <= 5; kind++) {
            due("the one before " + kind, x.kind(kind, 0), kind == 0 ? 0 : 10 * (kind - 1));
        }
        refuses("kind -1", y -> y.kind(-1, 0), -2);
        refuses("kind 6", y -> y.kind(6, 0), -2);
        refuses("the least kind", y -> y.kind(LEAST, 0), -2);
        refuses("the greatest kind", y -> y.kind(GREATEST, 0), -2);
    }

    static void p07_figuresZeroToNine() {
        ArchiveOfDeltas x = new ArchiveOfDeltas();
        for (int figure = 0; figure <= 9; figure++) {
            due("the one before " + figure, x.kind(5, figure), figure == 0 ? 0 : 50 + figure - 1);
        }
        due("the last", x.kind(0, 9), 59);
        due("of plain, too", x.kind(0, 0), 9);
        refuses("figure -1", y -> y.kind(0, -1), -4);
        refuses("figure 10", y -> y.kind(0, 10), -6);
        refuses("the least figure", y -> y.kind(0, LEAST), -4);
        refuses("the greatest figure", y -> y.kind(0, GREATEST), -6);
    }

    static void p07_twoRefusalsAtOnce() {
        refuses("kind and below: other", y -> y.kind(6, -1), -2);
        refuses("kind and above: other", y -> y.kind(-1, 10), -2);
    }

    static void p07_nothingIsRepackedByIt() {
        ArchiveOfDeltas x = told(PACKED);
        due("newest", x.kind(2, 0), 0);
        bases("as they were", x, -9, 0, 0, 0, -9);
    }

    // ---- promise 8 ----

    static void p08_boundsZeroToEight() {
        ArchiveOfDeltas x = new ArchiveOfDeltas();
        for (int bound = 0; bound <= 8; bound++) {
            due("the one before " + bound, x.bound(bound), bound == 0 ? 4 : bound - 1);
        }
        due("count", x.count(5), 8);
        refuses("-1", y -> y.bound(-1), -4);
        refuses("9", y -> y.bound(9), -6);
        refuses("the least", y -> y.bound(LEAST), -4);
        refuses("the greatest", y -> y.bound(GREATEST), -6);
    }

    static void p08_chainsStayTillARepack() {
        ArchiveOfDeltas x = told(CHAIN, "r;");
        due("depth", x.count(3), 3);
        due("bound", x.bound(1), 4);
        due("depth stays", x.count(3), 3);
        x.repack();
        due("then no more", x.count(3), 1);
    }

    // ---- promise 9 ----

    static void p09_ofNothingAndOfOne() {
        due("nothing", new ArchiveOfDeltas().repack(), 0);
        ArchiveOfDeltas x = told("v..a;");
        due("one", x.repack(), 2);
        bases("one", x, -9);
        x = told("v..a;c;");
        due("none there", x.repack(), 0);
    }

    static void p09_boundZeroStoresAllWhole() {
        ArchiveOfDeltas x = told(PACKED);
        x.bound(0);
        due("cost", x.repack(), 10 + 10 + 9 + 10 + 5);
        due("whole", x.count(4), 31);
        due("depth", x.count(3), 0);
    }

    static void p09_aDepthBelowTheBound() {
        // 3 is best by 2, that has depth 2: below 3, but not below 2
        ArchiveOfDeltas x = told(CHAIN);
        x.bound(3);
        x.repack();
        bases("bound 3", x, -9, 0, 1, 2);
        x.bound(2);
        x.repack();
        bases("bound 2", x, -9, 0, 1, 1);
        due("depth", x.count(3), 2);
    }

    static void p09_nineInAChainByBoundEight() {
        ArchiveOfDeltas x = told("v..aabbccddeeff;v..faaabbccddee;v..ddfaaabbccdd;", "v..baddfaaabbcc;v..cfbaddfaaabb;",
                "v..hfcfbaddfaaa;v..abhfcfbaddfa;v..hbabhfcfbadd;", "v..hehbabhfcfba;v..gdhehbabhfcf;");
        x.bound(8);
        x.repack();
        due("greatest depth", x.count(3), 8);
        due("the ninth", x.version(8, 4), 8);
        due("its base", x.version(8, 3), 7);
        // the tenth would have depth 9 by the ninth
        due("the tenth is by the eighth", x.version(9, 3), 7);
        x.bound(7);
        x.repack();
        due("greatest depth", x.count(3), 7);
        due("the ninth is by the seventh", x.version(8, 3), 6);
    }

    static void p09_asDearAsWholeIsWhole() {
        // of four letters WHOLE is 5: two copies 5, a copy and an insert 4
        ArchiveOfDeltas x = told("v..abcd;v..cdab;r;");
        due("as dear", x.delta(0, 1, 0), 5);
        bases("as dear", x, -9, -9);
        x = told("v..abcd;v..abch;r;");
        due("less by 1", x.delta(0, 1, 0), 4);
        bases("less by 1", x, -9, 0);
        x = told("v..ab;v..ab;r;");
        due("two letters are as dear", x.delta(0, 1, 0), 3);
        bases("two letters", x, -9, -9);
        x = told("v..abc;v..abc;r;");
        bases("three letters", x, -9, 0);
    }

    static void p09_thriftSavesFigureAndOne() {
        // WHOLE 9, a delta 3: it saves 6
        ArchiveOfDeltas x = told("v..abcdefgh;v..abcdefgh;");
        x.kind(4, 5);
        due("figure 5", x.repack(), 9 + 3);
        x.kind(4, 6);
        due("figure 6", x.repack(), 9 + 9);
        // WHOLE 13, a delta 3: it saves 10
        x = told("v..abcdefghabcd;v..abcdefghabcd;");
        x.kind(4, 9);
        due("figure 9", x.repack(), 13 + 3);
        x = told("v..abcdefghabc;v..abcdefghabc;");
        due("it saves 9", x.kind(4, 9), 0);
        due("figure 9, not enough", x.repack(), 12 + 12);
        x.kind(4, 8);
        due("figure 8", x.repack(), 12 + 3);
        x = told("v..abc;v..abc;");
        x.kind(4, 0);
        due("figure 0 as plain", x.repack(), 4 + 3);
    }

    static void p09_figureCountsForThriftAndWindowAlone() {
        for (int kind = 0; kind <= 3; kind++) {
            ArchiveOfDeltas x = told("v..abc;v0.abc;");
            x.kind(kind, 9);
            due("kind " + kind, x.repack(), 4 + 3);
        }
    }

    static void p09_windowOfFigure() {
        ArchiveOfDeltas x = told("v..aabb;v..ccdd;v..eeff;v..aabb;k50;r;");
        bases("figure 0: none", x, -9, -9, -9, -9);
        x = told("v..aabb;v..ccdd;v..eeff;v..aabb;k52;r;");
        bases("figure 2: the first is too early", x, -9, -9, -9, -9);
        x = told("v..aabb;v..ccdd;v..eeff;v..aabb;k53;r;");
        bases("figure 3", x, -9, -9, -9, 0);
        x = told("v..aabb;v..aabb;v..aabb;k51;r;");
        bases("figure 1: the latest alone", x, -9, 0, 1);
        x = told("v..aabb;" + "v..c;".repeat(8) + "v..aabb;k59;r;");
        due("by length, so the latest", x.version(9, 3), 0);
        x = told("v..aabb;v..cccc;v..dddd;v..eeee;v..ffff;", "v..gggg;v..hhhh;v..acac;v..bdbd;v..aabb;k58;r;");
        due("figure 8: nine ahead are too many", x.version(9, 3), -9);
        due("figure 9", x.kind(5, 9), 58);
        x.repack();
        due("figure 9: the first of nine", x.version(9, 3), 0);
    }

    static void p09_kinIsAParentEitherWay() {
        // NEWEST first: the parent is placed behind its child
        ArchiveOfDeltas x = told("v..aabb;v0.aabb;k30;r;");
        bases("a first parent", x, 1, -9);
        x = told("v..hhhh;v..aabb;v01aabb;k30;r;");
        bases("a second parent", x, -9, 2, -9);
        x = told("v..aabb;v0.cccc;v1.aabb;k30;r;");
        bases("no grandparent", x, -9, -9, -9);
        x = told("v..cccc;v0.aabb;v0.aabb;k30;r;");
        bases("no sibling", x, -9, -9, -9);
        x = told("v..aabb;v..aabb;k30;r;");
        bases("nobody", x, -9, -9);
    }

    static void p09_orderOfAlikeOnes() {
        ArchiveOfDeltas x = told("v..aabb;v..aabb;v..aabb;k00;r;");
        bases("plain: the first placed", x, -9, 0, 0);
        x = told("v..aabb;v..aabb;v..aabb;k10;r;");
        bases("longest: by numbers", x, -9, 0, 0);
        x = told("v..aabb;v..aabb;v..aabb;k20;r;");
        bases("newest: the greatest number", x, 2, 2, -9);
        x = told("v..aabb;v..aabba;v..aabb;v..aabba;k10;r;");
        bases("longest: the most letters", x, 1, -9, 1, 1);
    }

    static void p09_pieceOfOneIsAnInsert() {
        ArchiveOfDeltas x = told("v..abc;v..abch;v..abchc;r;");
        bases("ahead", x, -9, 0, 1);
        due("steps of 1", x.version(1, 8), 2);
        due("h", x.step(1, 1, 0), 0);
        due("steps of 2", x.version(2, 8), 2);
        due("abch", x.step(2, 0, 0), 4);
        due("c alone stands, but is one", x.step(2, 1, 0), 0);
    }

    static void p09_onesGoneAreNotPlaced() {
        ArchiveOfDeltas x = told("v..aabb;v..aabb;v..aabb;h01;h12;c;r;");
        due("one gone", x.version(0, 0), -1);
        due("the first there", x.version(1, 3), -9);
        due("by the first there", x.version(2, 3), 1);
        due("cost", x.count(2), 5 + 3);
    }

    static void p09_againIsTheSame() {
        ArchiveOfDeltas x = told(PACKED);
        String before = seen(x);
        due("cost", x.repack(), 27);
        sees("again", x, before);
    }

    static void p09_hashesStay() {
        ArchiveOfDeltas x = told("v..aabb;v..aabb;r;x000h;r;");
        spelled(x, 1, "habb");
        due("hash of 0", x.version(0, 6), hash("aabb"));
        due("hash of 1", x.version(1, 6), hash("aabb"));
        due("not sound", x.wrong(), 3);
        // no delta mends: 0 is stored by 1 then, as restored
        x.kind(2, 0);
        x.repack();
        spelled(x, 0, "habb");
        due("not sound", x.wrong(), 3);
    }

    // ---- promise 10 ----

    static void p10_nothingThere() {
        due("none", new ArchiveOfDeltas().collect(), 0);
        due("none any more", told("v..a;c;").collect(), 0);
    }

    static void p10_noHeadsAllGo() {
        ArchiveOfDeltas x = told(FULL);
        due("ten", x.collect(), 10);
        due("there", x.count(1), 0);
        due("came", x.count(0), 10);
        due("cost", x.count(2), 0);
        due("none more", x.collect(), 0);
    }

    static void p10_allReachedNoneGoes() {
        ArchiveOfDeltas x = told("v..a;v0.a;v1.a;v2.a;v3.a;v4.a;v5.a;v6.a;v7.a;v8.a;h39;");
        due("none", x.collect(), 0);
        due("there", x.count(1), 1023);
    }

    static void p10_aNumberIsNeverUsedAgain() {
        ArchiveOfDeltas x = told(NINE);
        due("nine", x.collect(), 9);
        due("the tenth number", tell(x, "v..ab;"), 1);
        due("there", x.count(1), 512);
        due("no room", x.edits(9, 0, 0), -6);
        due("it goes, too", x.collect(), 1);
        due("no room for any", tell(x, "v..a;"), -2000);
    }

    static void p10_reachedFromTheLastHeadAlone() {
        ArchiveOfDeltas x = told("v..a;v..b;v..c;v10d;h33;");
        due("2 goes", x.collect(), 1);
        due("both parents stay", x.count(1), 1 + 2 + 8);
    }

    static void p10_childrenGoParentsStay() {
        ArchiveOfDeltas x = told("v..a;v0.b;v1.c;h01;");
        due("the child", x.collect(), 1);
        due("there", x.count(1), 3);
    }

    static void p10_aBaseThatGoesLeavesWhole() {
        ArchiveOfDeltas x = told("v..aabbcc;v..aabbcc;v..aabbcd;h01;r;");
        bases("ahead", x, -9, 0, 0);
        due("two go", x.collect(), 2);
        due("whole", x.version(1, 3), -9);
        due("cost", x.version(1, 5), 7);
        due("no steps", x.version(1, 8), 0);
        due("no step", x.step(1, 0, 0), -1);
        spelled(x, 1, "aabbcc");
    }

    static void p10_aBaseThatStaysIsStillTheBase() {
        // 1 by 0, 2 by 1, 3 by 2: 0 and 1 go, so 2 is whole, 3 by it
        ArchiveOfDeltas x = told(CHAIN, "r;h02;h13;");
        due("two go", x.collect(), 2);
        due("2 is whole", x.version(2, 3), -9);
        due("3 is by 2", x.version(3, 3), 2);
        due("its depth", x.version(3, 4), 1);
        spelled(x, 3, "fehhggaabbcc");
    }

    static void p10_numberZeroMayLoseItsBaseToo() {
        ArchiveOfDeltas x = told("v..aabb;v..aabb;k20;h00;r;");
        due("by 1", x.version(0, 3), 1);
        due("1 goes", x.collect(), 1);
        due("whole", x.version(0, 3), -9);
        due("cost", x.count(2), 5);
        spelled(x, 0, "aabb");
    }

    static void p10_lettersAsRestoredFromDamage() {
        ArchiveOfDeltas x = told("v..aabbcc;v..aabbcc;h01;r;x005h;");
        due("the damaged one goes", x.collect(), 1);
        spelled(x, 1, "aabbch");
        due("hash stays", x.version(1, 6), hash("aabbcc"));
        due("not sound", x.version(1, 7), 0);
    }

    // ---- promise 11 ----

    static void p11_placesOfIt() {
        ArchiveOfDeltas x = told(SIZES);
        due("the first of 12", x.damages(0, 0, 7), 0);
        due("the 12th", x.damages(0, 11, 7), 3);
        spelled(x, 0, "hbcdefghabch");
        due("the only one", x.damages(2, 0, 7), 0);
        refuses(SIZES, "-1", y -> y.damages(2, -1, 7), -1);
        refuses(SIZES, "behind the only one", y -> y.damages(2, 1, 7), -1);
        refuses(SIZES, "behind the 12th", y -> y.damages(0, 12, 7), -1);
        refuses(SIZES, "the least", y -> y.damages(0, LEAST, 7), -1);
        refuses(SIZES, "the greatest", y -> y.damages(0, GREATEST, 7), -1);
    }

    static void p11_lettersZeroToSeven() {
        ArchiveOfDeltas x = told(SIZES);
        due("7", x.damages(3, 1, 7), 1);
        due("0", x.damages(3, 1, 0), 7);
        due("it is 0", x.damages(3, 1, 1), 0);
        refuses(SIZES, "-1", y -> y.damages(3, 0, -1), -2);
        refuses(SIZES, "8 leaves nothing out", y -> y.damages(3, 0, 8), -2);
        refuses(SIZES, "the least", y -> y.damages(3, 0, LEAST), -2);
        refuses(SIZES, "the greatest", y -> y.damages(3, 0, GREATEST), -2);
    }

    static void p11_noSuchVersion() {
        refuses("the next number", y -> y.damages(5, 0, 0), -1);
        refuses("-1", y -> y.damages(-1, 0, 0), -1);
        refuses("the least", y -> y.damages(LEAST, 0, 0), -1);
        refuses("the greatest", y -> y.damages(GREATEST, 0, 0), -1);
        refuses(ONE_GONE, "one gone", y -> y.damages(0, 0, 0), -1);
        refuses("", "none there", y -> y.damages(0, 0, 0), -1);
    }

    static void p11_notWhole() {
        refuses("a delta", y -> y.damages(1, 0, 0), -3);
        ArchiveOfDeltas x = told("v..aabb;v..aabb;r;");
        due("a delta", x.damages(1, 0, 7), -3);
        x.bound(0);
        x.repack();
        due("whole again", x.damages(1, 0, 7), 0);
    }

    static void p11_twoRefusalsAtOnce() {
        refuses("version and place: nobody", y -> y.damages(5, -1, 0), -1);
        refuses("version and letter: nobody", y -> y.damages(5, 0, 8), -1);
        refuses("a delta and no place: state", y -> y.damages(1, 9, 0), -3);
        refuses("a delta and no letter: state", y -> y.damages(1, 0, 8), -3);
        refuses("a delta and neither: state", y -> y.damages(1, -1, -1), -3);
        refuses("place and letter: nobody", y -> y.damages(0, 9, 8), -1);
    }

    static void p11_theHashStaysAndSoundIsByIt() {
        ArchiveOfDeltas x = told("v..aaaa;");
        due("another letter", x.damages(0, 0, 1), 0);
        due("not sound", x.version(0, 7), 0);
        due("and another", x.damages(0, 2, 4), 0);
        due("not sound", x.version(0, 7), 0);
        // "baee" has the hash of "aaaa": 29791 and 4 times 31 and 4 are 3 times 9973
        due("and another", x.damages(0, 3, 4), 0);
        due("the hash stays", x.version(0, 6), 2143);
        due("sound, though of other letters", x.version(0, 7), 1);
        due("not wrong", x.wrong(), 0);
        due("and another", x.damages(0, 1, 1), 0);
        due("not sound", x.version(0, 7), 0);
    }

    static void p11_allThatIsStoredByItFollowsDownToNumberZero() {
        ArchiveOfDeltas x = told("v..fehhggaabbcc;v..hhggaabbccdd;v..ggaabbccddee;v..aabbccddeeff;", "k20;r;");
        bases("newest", x, 1, 2, 3, -9);
        due("the fifth letter", x.damages(3, 4, 7), 2);
        spelled(x, 3, "aabbhcddeeff");
        spelled(x, 2, "ggaabbhcddee");
        spelled(x, 1, "hhggaabbhcdd");
        spelled(x, 0, "fehhggaabbhc");
        due("the last letter but one", x.damages(3, 10, 7), 5);
        spelled(x, 2, "ggaabbhcddee");
        due("all are wrong", x.wrong(), 15);
    }

    static void p11_theSameLetterHurtsNobody() {
        ArchiveOfDeltas x = told(PACKED);
        String before = seen(x);
        due("the same", x.damages(0, 0, 0), 0);
        sees("the same", x, before);
    }
}
