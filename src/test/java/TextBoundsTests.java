import java.util.function.ToIntFunction;

/** Section 1 and promises 2, 3, 4: each sentence that names a boundary of THE TEXT has a test of its own. */
public final class TextBoundsTests {
    private static final int NONE = -1, OUTSIDE = -1000000002, NOT = -1000000003, FULL = -1000000004;
    private static final int CANNOT_STAND = 1, OUT_OF_BOUNDS = 2, ONE_TOO_MANY = 3;

    private static final String SIX = "q1;m0 0 1 0;m0 0 1 0;m0 0 1 0;m0 0 1 0;m0 0 1 0;m0 0 1 0;";
    private static final String TWELVE = "q1;m0 0 1 0;" + "s0 0 0 1;".repeat(12);

    public static void main(String[] args) {
        lettersAreZeroTo255();
        lettersAre240AtMost();
        aTextOf240LettersIsRead();
        qIsOneToNine();
        kindIsZeroToThree();
        sideIsZeroOrOne();
        weightIsOneTo99();
        wouldIsZeroTo255();
        ownerIsToldAhead();
        matterIsZeroToSeven();
        wayIsZeroOrOne();
        notchIsOneToNine();
        membersAreSixAtMost();
        strapsAreTwelveAtMost();
        qComesFirst();
        qComesOnce();
        numbersHaveOneToThreeFigures();
        longNumbersDoNotWrap();
        blanksStandAnywhere();
        blanksPartNumbers();
        otherLettersAreNoBlanks();
        wordsAreOneLetter();
        theEndIsAtTheTextsLength();
        theFirstLetterCounts();
        ofOneLetterTheLeast();
        anEmptyTextIsNoHouse();
        blanksAloneAreNoHouse();
        aHouseMayHaveNoMembers();
        theTextIsEmptyThen();
        withAFaultAllIsAsItWas();
        allBeginsAnew();
        theEmptyTextBeginsAnewToo();
        faultIsOfTheLatest();
        Due.done();
    }

    private static void is(String call, int got, int want) {
        Due.is(call, got, want);
    }

    private static void good(String text, int members) {
        BoundBraces x = new BoundBraces();
        Due.feed(x, text);
        is("house() of \"" + text + "\"", x.house(), members);
        is("fault() of \"" + text + "\"", x.fault(), NONE);
        is("told(1) of \"" + text + "\"", x.told(1), members);
        is("told(3) of \"" + text + "\"", x.told(3), 0);
    }

    /** An old house with deeds, an image, papers and a seed. */
    private static BoundBraces old() {
        BoundBraces x = Due.told("q2;m1 1 9 3;s0 0 0 1;s0 1 1 4;");
        x.seed(77);
        x.keep(1);
        x.put(0);
        x.say(0, 5, true, 8);
        x.see(0, 0);
        x.write(0, 1, 1);
        return x;
    }

    /** The fault is told, and the house that was, with all that hangs on it, is as it was. */
    private static void bad(String text, int number, int letter) {
        BoundBraces x = old();
        BoundBraces twin = old();
        Due.feed(x, text);
        is("house() of \"" + text + "\"", x.house(), -10 - number);
        is("fault() of \"" + text + "\"", x.fault(), letter);
        Due.isSame("all behind \"" + text + "\"", Due.picture(x), Due.picture(twin));
        is("undo(2) behind \"" + text + "\"", x.undo(2), 0);
        is("goBack(1) behind \"" + text + "\"", x.goBack(1), 1);
        is("goBack(0) behind \"" + text + "\"", x.goBack(0), NOT);
    }

    /** The number between ahead and behind has these bounds, and is told by asked. */
    private static void bounds(String ahead, int least, int most, String behind, ToIntFunction<BoundBraces> asked) {
        for (int value = least; value <= most; value++) {
            BoundBraces x = Due.told(ahead + value + behind);
            is("fault() with " + value + " behind " + ahead, x.fault(), NONE);
            is("what is told of " + value + " behind " + ahead, asked.applyAsInt(x), value);
        }
        bad(ahead + (most + 1) + behind, OUT_OF_BOUNDS, ahead.length());
        bad(ahead + "999" + behind, OUT_OF_BOUNDS, ahead.length());
        bad(ahead + "1000" + behind, OUT_OF_BOUNDS, ahead.length());
        bad(ahead + " " + (most + 1) + behind, OUT_OF_BOUNDS, ahead.length() + 1);
        if (least > 0) {
            bad(ahead + (least - 1) + behind, OUT_OF_BOUNDS, ahead.length());
            bad(ahead + "000" + behind, OUT_OF_BOUNDS, ahead.length());
        }
    }

    private static void lettersAreZeroTo255() {
        Due.says("A letter (0 .. 255)");
        BoundBraces x = new BoundBraces();
        is("feed(0)", x.feed(0), 1);
        is("feed(255)", x.feed(255), 2);
        int[] outside = {-1, 256, Integer.MIN_VALUE, Integer.MAX_VALUE, 'q' + 256, 'q' - 256};
        for (int letter : outside) {
            is("feed(" + letter + ")", x.feed(letter), OUTSIDE);
            is("letters", x.told(3), 2);
        }
        is("feed(32)", x.feed(32), 3);
    }

    private static void lettersAre240AtMost() {
        Due.says("OUTSIDE, FULL (240)");
        BoundBraces x = new BoundBraces();
        Due.feed(x, " ".repeat(239));
        is("the 240th", x.feed(';'), 240);
        is("the 241st", x.feed(' '), FULL);
        is("the 241st, again", x.feed('x'), FULL);
        is("the 241st, outside", x.feed(256), OUTSIDE);
        is("the 241st, below", x.feed(-1), OUTSIDE);
        is("letters", x.told(3), 240);
        is("house()", x.house(), -11);
        is("fault(), the 240th letter", x.fault(), 239);
        is("letters then", x.told(3), 0);
        is("the first anew", x.feed('q'), 1);
    }

    private static void aTextOf240LettersIsRead() {
        Due.says("a text (240 letters at most)");
        String ahead = SIX + "s0 0 0 1;".repeat(11);
        String last = "s5 7 1 9;";
        String whole = ahead + " ".repeat(240 - ahead.length() - last.length()) + last;
        BoundBraces x = new BoundBraces();
        Due.feed(x, whole);
        is("letters", x.told(3), 240);
        is("beyond", x.feed('x'), FULL);
        is("house()", x.house(), 6);
        is("straps", x.told(2), 12);
        is("the last one's matter", x.strap(11, 1), 7);
        is("the last one's notch", x.strap(11, 3), 9);
        BoundBraces y = new BoundBraces();
        Due.feed(y, whole.substring(0, 239));
        is("house() of 239", y.house(), -11);
        is("its end", y.fault(), 239);
        BoundBraces z = new BoundBraces();
        Due.feed(z, " " + whole);
        is("the 240th is the last notch, the end is missed", z.house(), -11);
        is("the end at the text's length", z.fault(), 240);
    }

    private static void qIsOneToNine() {
        Due.says("Q 1 .. 9");
        bounds("q", 1, 9, ";", x -> x.told(0));
    }

    private static void kindIsZeroToThree() {
        Due.says("KIND K, 0 .. 3");
        bounds("q1;m", 0, 3, " 0 1 0;", x -> x.member(0, 0));
    }

    private static void sideIsZeroOrOne() {
        Due.says("SIDE S, 0 .. 1");
        bounds("q1;m0 ", 0, 1, " 1 0;", x -> x.member(0, 1));
    }

    private static void weightIsOneTo99() {
        Due.says("WEIGHT W, 1 .. 99");
        bounds("q1;m0 0 ", 1, 99, " 0;", x -> x.member(0, 2));
    }

    private static void wouldIsZeroTo255() {
        Due.says("a SET F of MATTERS 0 to 7, 0 .. 255");
        bounds("q1;m0 0 1 ", 0, 255, ";", x -> x.member(0, 3));
    }

    private static void ownerIsToldAhead() {
        Due.says("of a MEMBER M told ahead");
        bounds(SIX + "s", 0, 5, " 0 0 1;", x -> x.strap(0, 0));
        bounds("q1;m0 0 1 0;s", 0, 0, " 0 0 1;m0 0 1 0;", x -> x.strap(0, 0));
        bad("q1;s0 0 0 1;", OUT_OF_BOUNDS, 4);
        bad("q1;s0 0 0 1;m0 0 1 0;", OUT_OF_BOUNDS, 4);
        bad("q1;m0 0 1 0;s1 0 0 1;m0 0 1 0;", OUT_OF_BOUNDS, 13);
        BoundBraces x = Due.told("q1;m0 0 1 0;s0 1 0 2;m0 0 1 0;s1 3 1 4;s0 5 0 6;");
        is("members", x.told(1), 2);
        is("the first's", x.member(0, 4), 5);
        is("the second's", x.member(1, 4), 2);
    }

    private static void matterIsZeroToSeven() {
        Due.says("on a MATTER T, 0 .. 7");
        bounds("q1;m0 0 1 0;s0 ", 0, 7, " 0 1;", x -> x.strap(0, 1));
    }

    private static void wayIsZeroOrOne() {
        Due.says("A 1 for it, 0 against");
        bounds("q1;m0 0 1 0;s0 0 ", 0, 1, " 1;", x -> x.strap(0, 2));
    }

    private static void notchIsOneToNine() {
        Due.says("NOTCH N, 1 .. 9");
        bounds("q1;m0 0 1 0;s0 0 0 ", 1, 9, ";", x -> x.strap(0, 3));
    }

    private static void membersAreSixAtMost() {
        Due.says("6 MEMBERS at most; a seventh 'm' (at it)");
        good(SIX, 6);
        good(SIX + "s5 0 0 1;", 6);
        bad(SIX + "m", ONE_TOO_MANY, SIX.length());
        bad(SIX + "m0 0 1 0;", ONE_TOO_MANY, SIX.length());
        bad(SIX + "  m9 9 0 999;", ONE_TOO_MANY, SIX.length() + 2);
        bad(SIX + "s0 0 0 1;m0 0 1 0;", ONE_TOO_MANY, SIX.length() + 9);
    }

    private static void strapsAreTwelveAtMost() {
        Due.says("12 STRAPS at most; a 13th 's' (at it)");
        good(TWELVE, 1);
        is("straps", Due.told(TWELVE).told(2), 12);
        good(TWELVE + "m0 0 1 0;", 2);
        bad(TWELVE + "s", ONE_TOO_MANY, TWELVE.length());
        bad(TWELVE + "s0 0 0 1;", ONE_TOO_MANY, TWELVE.length());
        bad(TWELVE + " s9 9 9 0;", ONE_TOO_MANY, TWELVE.length() + 1);
    }

    private static void qComesFirst() {
        Due.says("another word first than 'q'");
        bad("m0 0 1 0;", CANNOT_STAND, 0);
        bad("m", CANNOT_STAND, 0);
        bad("s0 0 0 1;", CANNOT_STAND, 0);
        bad("  s0 0 0 1;q1;", CANNOT_STAND, 2);
        bad("m0 0 1 0;q1;", CANNOT_STAND, 0);
        bad(";", CANNOT_STAND, 0);
        bad("0", CANNOT_STAND, 0);
        bad("9999", CANNOT_STAND, 0);
    }

    private static void qComesOnce() {
        Due.says("'q' again (at it)");
        bad("q1;q1;", ONE_TOO_MANY, 3);
        bad("q1;q", ONE_TOO_MANY, 3);
        bad("q1; q0;", ONE_TOO_MANY, 4);
        bad("q1;m0 0 1 0;s0 0 0 1;q2;", ONE_TOO_MANY, 21);
        bad(SIX + "q", ONE_TOO_MANY, SIX.length());
        bad(TWELVE + "q", ONE_TOO_MANY, TWELVE.length());
    }

    private static void numbersHaveOneToThreeFigures() {
        Due.says("NUMBERS have one to three figures");
        good("q1;", 0);
        good("q01;", 0);
        good("q001;", 0);
        good("q9;m003 001 099 255;s000 007 001 009;", 1);
        good("q9;m000 000 001 000;s000 000 000 001;", 1);
        BoundBraces x = Due.told("q009;m003 01 099 017;s00 007 001 08;");
        is("q", x.told(0), 9);
        is("kind", x.member(0, 0), 3);
        is("weight", x.member(0, 2), 99);
        is("would", x.member(0, 3), 17);
        is("notch", x.strap(0, 3), 8);
        bad("q0001;", OUT_OF_BOUNDS, 1);
        bad("q00001", OUT_OF_BOUNDS, 1);
        bad("q1;m0000 0 1 0;", OUT_OF_BOUNDS, 4);
        bad("q1;m0 0 0001 0;", OUT_OF_BOUNDS, 8);
        bad("q1;m0 0 1 0255;", OUT_OF_BOUNDS, 10);
        bad("q1;m0 0 1 0;s0000 0 0 1;", OUT_OF_BOUNDS, 13);
        bad("q1;m0 0 1 0;s0 0 0 0009;", OUT_OF_BOUNDS, 19);
    }

    private static void longNumbersDoNotWrap() {
        Due.says("a NUMBER of four figures or more");
        bad("q4294967297;", OUT_OF_BOUNDS, 1);
        bad("q18446744073709551617;", OUT_OF_BOUNDS, 1);
        bad("q" + "1".repeat(239), OUT_OF_BOUNDS, 1);
        bad("q" + "0".repeat(237) + "1;", OUT_OF_BOUNDS, 1);
        bad("q1;m0 0 1 4294967296;", OUT_OF_BOUNDS, 10);
    }

    private static void blanksStandAnywhere() {
        Due.says("blanks (32) may stand anywhere but within NUMBERS");
        good("   q   1   ;   m   0   0   1   0   ;   s   0   0   0   1   ;   ", 1);
        good("q1;m0 0 1 0;s0 0 0 1; ", 1);
        bad("q1;m0 0 9 25 5;", CANNOT_STAND, 13);
        bad("q 0 1;", OUT_OF_BOUNDS, 2);
        is("the would of 2 5 5 is no 255", Due.told("q1;m0 0 9 2 5 5;").fault(), 12);
    }

    private static void blanksPartNumbers() {
        Due.says("two NUMBERS side by side need one");
        good("q1;m0 0 1 0;s0 0 0 1;", 1);
        bad("q1;m00 1 1;", CANNOT_STAND, 10);
        bad("q1;m0 01 1;", CANNOT_STAND, 10);
        bad("q1;m0010;", OUT_OF_BOUNDS, 4);
        bad("q1;m001;", CANNOT_STAND, 7);
    }

    private static void otherLettersAreNoBlanks() {
        Due.says("it cannot stand there (a letter that is no word)");
        for (int letter = 0; letter <= 255; letter++) {
            char c = (char) letter;
            if (c != ' ' && c != 'q') {
                bad("" + c, CANNOT_STAND, 0);
            }
            if (c != ' ' && c != 'q' && c != 'm' && c != 's') {
                bad("q1;" + c, CANNOT_STAND, 3);
            }
            if (c != ' ' && (c < '0' || c > '9')) {
                bad("q" + c, CANNOT_STAND, 1);
                bad("q1;m" + c, CANNOT_STAND, 4);
            }
            if (c != ' ' && c != ';' && (c < '0' || c > '9')) {
                bad("q1" + c, CANNOT_STAND, 2);
                bad("q1;m0 0 1 0 " + c, CANNOT_STAND, 12);
            }
        }
    }

    private static void wordsAreOneLetter() {
        Due.says("a word is one letter");
        bad("qq1;", CANNOT_STAND, 1);
        bad("q1;mm0 0 1 0;", CANNOT_STAND, 4);
        bad("Q1;", CANNOT_STAND, 0);
        bad("q1;M0 0 1 0;", CANNOT_STAND, 3);
        bad("q1;m0 0 1 0;S0 0 0 1;", CANNOT_STAND, 12);
    }

    private static void theEndIsAtTheTextsLength() {
        Due.says("the end at the text's length");
        String whole = "q1;m0 0 1 0;s0 0 0 1;";
        for (int length = 1; length < whole.length(); length++) {
            String part = whole.substring(0, length);
            if (part.endsWith(";")) {
                good(part, length > 3 ? 1 : 0);
                good(part + " ", length > 3 ? 1 : 0);
            } else {
                bad(part, CANNOT_STAND, length);
                bad(part + "   ", CANNOT_STAND, length + 3);
            }
        }
    }

    private static void theFirstLetterCounts() {
        Due.says("FAULTS, at the first letter that has one");
        bad("q0x", OUT_OF_BOUNDS, 1);
        bad("q10x", OUT_OF_BOUNDS, 1);
        bad("q1234x", OUT_OF_BOUNDS, 1);
        bad("qx0", CANNOT_STAND, 1);
        bad("q1x;q1;", CANNOT_STAND, 2);
        bad("q1;q0;", ONE_TOO_MANY, 3);
        bad("q1;m4 2 0 256", OUT_OF_BOUNDS, 4);
        bad("q1;m0 2 0 256", OUT_OF_BOUNDS, 6);
        bad("q1;m0 0 0 256", OUT_OF_BOUNDS, 8);
        bad("q1;m0 0 1 256", OUT_OF_BOUNDS, 10);
        bad("q1;m0 0 1 255", CANNOT_STAND, 13);
        bad("q1;m0 0 1 0;s0 8 2 0", OUT_OF_BOUNDS, 15);
        bad("q1;m0 0 1 0;s0 7 2 0", OUT_OF_BOUNDS, 17);
        bad("q1;m0 0 1 0;s0 7 1 0", OUT_OF_BOUNDS, 19);
        bad("q1;m0 0;m4", CANNOT_STAND, 7);
    }

    private static void ofOneLetterTheLeast() {
        Due.says("of these the least");
        bad("q1 2345;", CANNOT_STAND, 3);
        bad("q1;1234", CANNOT_STAND, 3);
        bad("q1;m0 0 1 0 9999;", CANNOT_STAND, 12);
        bad("q1;mq", CANNOT_STAND, 4);
        bad("q1q", CANNOT_STAND, 2);
        bad(SIX + "s0 0 0 m", CANNOT_STAND, SIX.length() + 7);
        bad(TWELVE + "m0 0 1 s", CANNOT_STAND, TWELVE.length() + 7);
    }

    private static void isNoHouse(BoundBraces x) {
        is("told(0)", x.told(0), 0);
        is("told(1)", x.told(1), 0);
        is("told(2)", x.told(2), 0);
        is("fault()", x.fault(), NONE);
        is("put(0)", x.put(0), NOT);
        is("session()", x.session(), NOT);
        is("drift(1)", x.drift(1), NOT);
        is("told(4)", x.told(4), 0);
        is("told(7)", x.told(7), 0);
    }

    private static void anEmptyTextIsNoHouse() {
        Due.says("An empty text: no HOUSE");
        BoundBraces x = new BoundBraces();
        is("house()", x.house(), 0);
        isNoHouse(x);
        BoundBraces y = old();
        is("house() behind another", y.house(), 0);
        isNoHouse(y);
    }

    private static void blanksAloneAreNoHouse() {
        Due.says("or one of blanks alone: no HOUSE");
        for (int blanks : new int[] {1, 2, 240}) {
            BoundBraces x = old();
            Due.feed(x, " ".repeat(blanks));
            is("letters", x.told(3), blanks);
            is("house()", x.house(), 0);
            isNoHouse(x);
        }
    }

    private static void aHouseMayHaveNoMembers() {
        Due.says("'q' Q ';' alone is a HOUSE");
        BoundBraces x = Due.told("q7;");
        is("q", x.told(0), 7);
        is("members", x.told(1), 0);
        is("put(7)", x.put(7), 0);
        is("session()", x.session(), 1);
        is("put ones", x.told(4), 1);
    }

    private static void theTextIsEmptyThen() {
        Due.says("THE TEXT (it is empty then, with a FAULT, too)");
        BoundBraces x = new BoundBraces();
        Due.feed(x, "q3");
        is("house()", x.house(), -11);
        is("letters", x.told(3), 0);
        Due.feed(x, ";");
        is("what was is not gone on from", x.house(), -11);
        is("fault()", x.fault(), 0);
        Due.feed(x, "q3;");
        is("house()", x.house(), 0);
        is("q", x.told(0), 3);
        is("letters", x.told(3), 0);
        is("house() of nothing", x.house(), 0);
        is("q", x.told(0), 0);
    }

    private static void withAFaultAllIsAsItWas() {
        Due.says("-10 less the number of its FAULT (all is as it was)");
        String[] texts = {"x", "q0;", "q1;q", "q1;m3 0 1 255;m3 0 1 255;s1 0 0 9", " m"};
        for (String text : texts) {
            BoundBraces x = old();
            BoundBraces twin = old();
            Due.feed(x, text);
            x.house();
            x.drift(5);
            twin.drift(5);
            Due.isSame("drift(5) behind \"" + text + "\"", Due.picture(x), Due.picture(twin));
            is("what can be undone", x.undo(7), twin.undo(7));
            Due.isSame("undone behind \"" + text + "\"", Due.picture(x), Due.picture(twin));
        }
    }

    private static void allBeginsAnew() {
        Due.says("nothing counted, no STRAIN, all STRAPS HOLD, WEIGHTS as told; nothing SEEN, no BOOK; IMAGES, what could be undone are gone; THE SEED stays");
        String text = "q1;m1 1 9 3;s0 0 0 1;s0 1 1 4;";
        BoundBraces x = Due.told(text);
        x.keep(0);
        x.put(0);
        x.session();
        x.letOut(1);
        x.letGo(1);
        x.say(0, 7, true, 9);
        x.see(0, 1);
        x.write(0, 0, 1);
        x.keep(1);
        x.put(1);
        x.seed(2147483647);
        Due.feed(x, text);
        is("house()", x.house(), 1);
        BoundBraces fresh = Due.told(text);
        fresh.seed(2147483647);
        Due.isSame("all", Due.picture(x), Due.picture(fresh));
        is("undo(1)", x.undo(1), NOT);
        is("goBack(0)", x.goBack(0), NOT);
        is("goBack(1)", x.goBack(1), NOT);
    }

    private static void theEmptyTextBeginsAnewToo() {
        Due.says("THE TEXT becomes THE HOUSE, the empty one too");
        BoundBraces x = old();
        x.keep(0);
        x.put(0);
        x.house();
        BoundBraces fresh = new BoundBraces();
        fresh.seed(77);
        Due.isSame("all", Due.picture(x), Due.picture(fresh));
        is("undo(1)", x.undo(1), NOT);
        is("goBack(0)", x.goBack(0), NOT);
        is("goBack(1)", x.goBack(1), NOT);
        is("member(0, 0)", x.member(0, 0), -1000000001);
        is("strap(0, 0)", x.strap(0, 0), -1000000001);
    }

    private static void faultIsOfTheLatest() {
        Due.says("The letter of the FAULT of the latest house(); NONE");
        BoundBraces x = new BoundBraces();
        is("ahead of all", x.fault(), NONE);
        Due.feed(x, "q1;;");
        is("while it is told", x.fault(), NONE);
        x.house();
        is("fault()", x.fault(), 3);
        is("again", x.fault(), 3);
        Due.feed(x, "q1");
        is("while the next is told", x.fault(), 3);
        x.house();
        is("of the latest", x.fault(), 2);
        Due.feed(x, "q1;");
        x.house();
        is("without one", x.fault(), NONE);
        Due.feed(x, "x");
        x.house();
        is("the first letter", x.fault(), 0);
        x.put(0);
        x.keep(0);
        x.goBack(0);
        is("deeds leave it", x.fault(), 0);
        x.house();
        is("the empty text has none", x.fault(), NONE);
    }
}
