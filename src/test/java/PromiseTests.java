/** Each promise of the document by answers worked out by hand: what is ordinary, the edges, what is refused. */
public final class PromiseTests {
    private static final int NONE = -1;
    private static final int UNKNOWN = -1000000001;
    private static final int OUTSIDE = -1000000002;
    private static final int NOT = -1000000003;
    private static final int FULL = -1000000004;

    /** Plain, old, on his toes, founder; all but the first hang. */
    private static final String FOUR =
        "q2;m0 0 20 3;m1 1 9 1;m2 0 6 4;m3 1 2 0;s0 0 0 3;s1 0 1 4;s1 1 1 5;s1 1 0 2;s2 2 0 7;s3 0 1 2;s3 2 1 1;";
    /** One who is held to matter 0 and 1, neither of which he would. */
    private static final String ONE = "q2;m0 0 50 0;s0 0 1 2;s0 1 1 3;";

    public static void main(String[] args) {
        aNewObject();
        feeding();
        houses();
        faultsOfNumbers();
        faultsOfWords();
        aFaultChangesNothing();
        theHouseBeginsAnew();
        toldOfAll();
        memberOfAll();
        strapOfAll();
        putStrains();
        putGives();
        putOfSplitMembers();
        puttingIsRefused();
        lettingOut();
        lettingGo();
        saying();
        sessions();
        drifting();
        undoing();
        undoingDraws();
        undoKeepsTwentyFour();
        goesAndPull();
        mattersTried();
        leastLooksAtAllStraps();
        agendas();
        powers();
        quietNights();
        seenOnes();
        theBook();
        seeds();
        images();
        tryingChangesNothing();
        Due.done();
    }

    private static void is(String call, int got, int want) {
        Due.is(call, got, want);
    }

    private static String all(BoundBraces x) {
        return Due.picture(x) + " fault " + x.fault();
    }

    private static void isSame(String what, String got, String want) {
        Due.isSame(what, got, want);
    }

    private static void faultOf(String text, int answer, int letter) {
        BoundBraces x = new BoundBraces();
        Due.feed(x, text);
        is("house() of \"" + text + "\"", x.house(), answer);
        is("fault() of \"" + text + "\"", x.fault(), letter);
        is("letters behind \"" + text + "\"", x.told(3), 0);
    }

    // promise 1
    private static void aNewObject() {
        BoundBraces x = new BoundBraces();
        for (int what = 0; what <= 14; what++) {
            is("new: told(" + what + ")", x.told(what), 0);
        }
        is("new: fault", x.fault(), NONE);
        is("new: member", x.member(0, 0), UNKNOWN);
        is("new: strap", x.strap(0, 0), UNKNOWN);
        is("new: put", x.put(0), NOT);
        is("new: session", x.session(), NOT);
        is("new: drift", x.drift(1), NOT);
        is("new: undo", x.undo(1), NOT);
        is("new: matter 0", x.matter(0, 0), 0);
        is("new: matter 1", x.matter(0, 1), 1000);
        is("new: matter 2", x.matter(0, 2), 0);
        is("new: matter 3", x.matter(0, 3), NONE);
        is("new: matter 4", x.matter(0, 4), NONE);
        is("new: agenda", x.agenda(255 & 31, 0), 0);
        is("new: couldBe", x.couldBe(), 0);
        is("new: next", x.next(), NONE);
        is("new: judge", x.judge(), NONE);
        is("new: tear", x.tear(), 0);
        is("new: goBack", x.goBack(0), NOT);
        is("new: seed", x.seed(0), 0);
    }

    // promise 2
    private static void feeding() {
        BoundBraces x = new BoundBraces();
        is("feed(-1)", x.feed(-1), OUTSIDE);
        is("feed(256)", x.feed(256), OUTSIDE);
        is("feed(0)", x.feed(0), 1);
        is("feed(255)", x.feed(255), 2);
        for (int i = 3; i <= 240; i++) {
            is("feed to " + i, x.feed(32), i);
        }
        is("feed the 241st", x.feed(32), FULL);
        is("feed(256) when full", x.feed(256), OUTSIDE);
        is("told(3) when full", x.told(3), 240);
        is("house() of it", x.house(), -11);
        is("its fault", x.fault(), 0);
        is("feed then", x.feed('q'), 1);
    }

    // promises 3, 4
    private static void houses() {
        faultOf("", 0, NONE);
        faultOf("    ", 0, NONE);
        faultOf("q9;", 0, NONE);
        faultOf("q1;m0 0 1 0;", 1, NONE);
        faultOf("  q  009 ; m 003 001 099 255 ;  s  000 7 01 9 ; ", 1, NONE);
        faultOf("q1;m0 0 1 0;s0 0 0 1;m1 1 99 255;s1 7 1 9;", 2, NONE);
        faultOf(FOUR, 4, NONE);
        BoundBraces x = Due.told(" q 009;m 3 1 099 255 ;s000 7 1 9;");
        is("q", x.told(0), 9);
        is("kind", x.member(0, 0), 3);
        is("side", x.member(0, 1), 1);
        is("weight", x.member(0, 2), 99);
        is("would", x.member(0, 3), 255);
        is("strap's matter", x.strap(0, 1), 7);
    }

    private static void faultsOfNumbers() {
        faultOf("q0;", -12, 1);
        faultOf("q10;", -12, 1);
        faultOf("q 0001;", -12, 2);
        faultOf("q12345678901234567890;", -12, 1);
        faultOf("q1234", -12, 1);
        faultOf("q10x", -12, 1);
        faultOf("q1;m4 0 1 0;", -12, 4);
        faultOf("q1;m0 2 1 0;", -12, 6);
        faultOf("q1;m0 0 0 0;", -12, 8);
        faultOf("q1;m0 0 100 0;", -12, 8);
        faultOf("q1;m0 0 1 256;", -12, 10);
        faultOf("q1;m0 0 1 0;s1 0 0 1;", -12, 13);
        faultOf("q1;s0 0 0 1;m0 0 1 0;", -12, 4);
        faultOf("q1;m0 0 1 0;s0 8 0 1;", -12, 15);
        faultOf("q1;m0 0 1 0;s0 0 2 1;", -12, 17);
        faultOf("q1;m0 0 1 0;s0 0 0 0;", -12, 19);
        faultOf("q1;m0 0 1 0;s0 0 0 10;", -12, 19);
        faultOf("q1;m0010;", -12, 4);
    }

    private static void faultsOfWords() {
        faultOf("x", -11, 0);
        faultOf("1", -11, 0);
        faultOf(";", -11, 0);
        faultOf("m0 0 1 0;", -11, 0);
        faultOf(" s0 0 0 1;", -11, 1);
        faultOf("q", -11, 1);
        faultOf("q  ", -11, 3);
        faultOf("q1", -11, 2);
        faultOf("q;", -11, 1);
        faultOf("q1 2;", -11, 3);
        faultOf("q1 2345;", -11, 3);
        faultOf("q1q1;", -11, 2);
        faultOf("q-1;", -11, 1);
        faultOf("q1;Q", -11, 3);
        faultOf("q1;;", -11, 3);
        faultOf("q1;5555", -11, 3);
        faultOf("q1;m0 0 1;", -11, 9);
        faultOf("q1;m0 0 1 0 0;", -11, 12);
        faultOf("q1;m0 0 1 0", -11, 11);
        faultOf("q1;\tm0 0 1 0;", -11, 3);
        faultOf("q1;q1;", -13, 3);
        faultOf("q1;q", -13, 3);
        String six = "q1;m0 0 1 0;m0 0 1 0;m0 0 1 0;m0 0 1 0;m0 0 1 0;m0 0 1 0;";
        faultOf(six, 6, NONE);
        faultOf(six + "m", -13, six.length());
        String twelve = "q1;m0 0 1 0;";
        for (int s = 0; s < 12; s++) {
            twelve += "s0 0 0 1;";
        }
        faultOf(twelve, 1, NONE);
        faultOf(twelve + " s9", -13, twelve.length() + 1);
    }

    private static void aFaultChangesNothing() {
        BoundBraces x = Due.told(ONE);
        x.put(0);
        x.keep(1);
        x.put(1);
        x.see(0, 1);
        x.write(0, 0, 0);
        x.seed(7);
        String before = all(x);
        Due.feed(x, "q1;m0 0 1 0");
        is("a fault", x.house(), -11);
        is("its letter", x.fault(), 11);
        is("a good one", x.told(0), 2);
        is("the book stands", x.told(13), 1);
        is("undone all the same", x.undo(1), 1);
        is("the image is there", x.goBack(1), 1);
        is("the seed", x.seed(0), 0);
        BoundBraces y = Due.told(ONE);
        y.put(0);
        y.keep(1);
        y.put(1);
        y.see(0, 1);
        y.write(0, 0, 0);
        y.seed(7);
        isSame("two alike", all(y), before);
        Due.feed(y, "q1;q");
        y.house();
        is("fault of the latest", y.fault(), 3);
        y.house();
        is("no house by the empty text", y.told(0), 0);
        is("and no fault", y.fault(), NONE);
    }

    private static void theHouseBeginsAnew() {
        BoundBraces x = Due.told(FOUR);
        x.seed(5);
        x.keep(0);
        x.keep(1);
        x.put(0);
        x.session();
        x.letGo(0);
        x.see(0, 1);
        x.write(0, 0, 0);
        Due.feed(x, FOUR);
        is("told again", x.house(), 4);
        for (int what = 4; what <= 7; what++) {
            is("anew: told(" + what + ")", x.told(what), 0);
        }
        is("all hold", x.told(8), 127);
        for (int what = 12; what <= 14; what++) {
            is("anew: told(" + what + ")", x.told(what), 0);
        }
        is("weight as told", x.member(1, 2), 9);
        is("no strain", x.strap(5, 4), 0);
        is("image 0 is gone", x.goBack(0), NOT);
        is("image 1 is gone", x.goBack(1), NOT);
        is("nothing to undo", x.undo(1), NOT);
        is("the seed stays", x.seed(0), 5);
        is("house of nothing", x.house(), 0);
        is("no house: q", x.told(0), 0);
        is("no house: straps", x.told(2), 0);
        is("no house: put", x.put(0), NOT);
    }

    // promise 5
    private static void toldOfAll() {
        BoundBraces x = Due.told(FOUR);
        int[] want = {2, 4, 7, 0, 0, 0, 0, 0, 127, 14, 1, 3, 0, 0, 0};
        for (int what = 0; what < want.length; what++) {
            is("four: told(" + what + ")", x.told(what), want[what]);
        }
        is("told(-1)", x.told(-1), OUTSIDE);
        is("told(15)", x.told(15), OUTSIDE);
        // side 0 has 10 notches, side 1 has 14
        x.letGo(1);
        is("alike it is 0", x.told(10), 0);
        x.say(1, 7, true, 1);
        is("one more", x.told(10), 1);
        x.feed(32);
        x.put(0);
        x.see(0, 0);
        x.write(0, 0, 0);
        x.write(0, 0, 0);
        x.session();
        is("letters", x.told(3), 1);
        is("put ones", x.told(4), 1);
        is("passed ones", x.told(5), 1);
        is("sessions", x.told(7), 1);
        is("seen", x.told(12), 1);
        is("entries", x.told(13), 2);
        is("can be undone", x.told(14), 4);
    }

    // promise 6
    private static void memberOfAll() {
        BoundBraces x = Due.told(FOUR);
        int[][] want = {
            {0, 0, 20, 3, 1, 1, 0, 0},
            {1, 1, 9, 1, 14, 2, 1, 4},
            {2, 0, 6, 4, 16, 4, 0, 0},
            {3, 1, 2, 0, 96, 5, 0, 0},
        };
        for (int m = 0; m < 4; m++) {
            for (int what = 0; what <= 7; what++) {
                is("four: member(" + m + ", " + what + ")", x.member(m, what), want[m][what]);
            }
        }
        is("member(4, 0)", x.member(4, 0), UNKNOWN);
        is("member(-1, 9)", x.member(-1, 9), UNKNOWN);
        is("member(0, 8)", x.member(0, 8), OUTSIDE);
        is("member(0, -1)", x.member(0, -1), OUTSIDE);
        // on 3: one for, two against; on 5: two for, one against; on 6: two each
        BoundBraces y = Due.told("q9;m0 0 99 0;m0 0 99 0;s0 3 0 1;s0 3 1 9;s0 3 0 1;s0 5 1 1;s0 5 1 1;s0 5 0 1;"
            + "s0 6 0 1;s0 6 1 1;s0 6 1 1;s0 6 0 1;s1 3 1 1;");
        is("clashes", y.member(0, 6), 2 + 2 + 4);
        is("freed", y.member(0, 7), 2 + 32 + 128 + 256);
        y.letGo(7);
        is("clashes of those that hold", y.member(0, 6), 2 + 2 + 2);
        is("freed then", y.member(0, 7), 2 + 32 + 256);
        is("none of another's", y.member(1, 6), 0);
        BoundBraces z = Due.told("q9;m0 0 99 0;s0 0 1 1;s0 0 0 1;s0 7 0 1;s0 7 1 1;");
        is("clashes on 0 and 7", z.member(0, 6), 2);
        is("freed on 0 and 7", z.member(0, 7), 1 + 4);
    }

    // promise 7
    private static void strapOfAll() {
        BoundBraces x = Due.told("q2;m0 0 20 0;m0 0 20 0;s0 3 1 4;s1 5 0 9;");
        int[][] want = {{0, 3, 1, 4, 0, 0}, {1, 5, 0, 9, 0, 0}};
        for (int s = 0; s < 2; s++) {
            for (int what = 0; what <= 5; what++) {
                is("strap(" + s + ", " + what + ")", x.strap(s, what), want[s][what]);
            }
        }
        is("strap(2, 0)", x.strap(2, 0), UNKNOWN);
        is("strap(-1, 6)", x.strap(-1, 6), UNKNOWN);
        is("strap(0, 6)", x.strap(0, 6), OUTSIDE);
        is("strap(0, -1)", x.strap(0, -1), OUTSIDE);
    }

    private static void strainIs(BoundBraces x, String when, int... want) {
        for (int s = 0; s < want.length; s++) {
            is(when + ": strain of " + s, x.strap(s, 4), want[s]);
        }
    }

    // promise 8
    private static void putStrains() {
        BoundBraces x = Due.told(FOUR);
        is("put(0)", x.put(0), 1);
        strainIs(x, "put 0", 1, 0, 0, 0, 0, 1, 0);
        is("put(1)", x.put(1), 1);
        strainIs(x, "put 1", 1, 0, 2, 2, 0, 1, 0);
        is("put(2)", x.put(2), 0);
        strainIs(x, "put 2", 1, 0, 2, 2, 1, 1, 1);
        is("put(3)", x.put(3), 0);
        strainIs(x, "put 3", 1, 0, 2, 2, 1, 1, 1);
        is("puts", x.told(4), 4);
        is("passed", x.told(5), 2);
        is("twangs", x.told(6), 0);
        // on his toes he strains only while he hangs
        BoundBraces y = Due.told("q9;m2 0 3 0;m2 0 2 0;s0 0 1 3;s1 0 1 3;");
        is("on toes", y.put(0), 1);
        strainIs(y, "on toes", 0, 1);
        // who is not held strains only what is against him
        BoundBraces z = Due.told("q9;m1 0 99 1;s0 0 1 5;s0 0 0 2;");
        is("not held", z.put(0), 1);
        strainIs(z, "not held", 0, 2);
    }

    private static void putGives() {
        BoundBraces x = Due.told("q3;m0 0 50 1;m1 1 50 0;s0 0 0 1;s1 0 1 1;s0 1 1 1;");
        is("even votes do not pass", x.put(0), 0);
        strainIs(x, "one", 1, 2, 0);
        is("none gave", x.told(6), 0);
        x.put(0);
        strainIs(x, "two", 2, 4, 0);
        is("it gave", x.strap(1, 5), 1);
        is("the other holds", x.strap(0, 5), 0);
        is("its notch stays", x.strap(1, 3), 1);
        x.put(0);
        strainIs(x, "three", 3, 4, 0);
        is("at Q times the notch", x.strap(0, 5), 1);
        is("twangs", x.told(6), 2);
        is("held still", x.told(8), 4);
        // let out, it gives with no more strain of its own, but only as its matter is put
        BoundBraces y = Due.told("q1;m0 0 50 0;s0 0 1 3;s0 1 0 1;");
        y.put(0);
        y.put(0);
        y.letOut(0);
        is("let out it holds", y.strap(0, 5), 0);
        y.put(1);
        is("on another matter too", y.strap(0, 5), 0);
        y.say(0, 0, false, 2);
        is("pull is none", y.goes(0, 0, 1), 1000);
        is("nothing goes for it", y.put(0), 0);
        is("against both ways: gone", y.strap(0, 5), 1);
        is("the other is as he went", y.strap(2, 4), 0);
    }

    private static void putOfSplitMembers() {
        // pulled both ways alike: he goes as he would, and strains what is against that
        BoundBraces x = Due.told("q9;m0 0 50 1;m3 0 1 1;s0 0 1 2;s0 0 0 2;s1 0 1 2;s1 0 0 2;");
        is("goes as he would", x.goes(0, 0, 0), 1);
        is("who hangs does not go", x.goes(1, 0, 0), 2);
        is("passes by one", x.put(0), 1);
        strainIs(x, "split", 0, 2, 0, 0);
        // all give at once, even if the first that gives would free the next
        BoundBraces y = Due.told("q1;m1 0 50 0;s0 0 1 2;s0 0 1 1;s0 0 0 1;");
        is("it passes by what held", y.put(0), 1);
        is("all gave", y.told(8), 0);
        is("three twangs", y.told(6), 3);
    }

    private static void puttingIsRefused() {
        BoundBraces x = new BoundBraces();
        is("put(8) without a house", x.put(8), OUTSIDE);
        is("put(-1) without a house", x.put(-1), OUTSIDE);
        is("put(0) without a house", x.put(0), NOT);
        BoundBraces y = Due.told("q1;");
        is("put without members", y.put(7), 0);
        is("it is counted", y.told(4), 1);
        String before = all(y);
        is("put(8)", y.put(8), OUTSIDE);
        is("put(-1)", y.put(-1), OUTSIDE);
        isSame("refused", all(y), before);
    }

    // promise 9
    private static void lettingOut() {
        BoundBraces x = Due.told(ONE);
        x.put(0);
        is("one notch less", x.letOut(0), 1);
        is("its notch", x.strap(0, 3), 1);
        is("it holds", x.strap(0, 5), 0);
        is("its strain stays", x.strap(0, 4), 1);
        is("with none", x.letOut(0), 0);
        is("let go", x.strap(0, 5), 2);
        is("no twang", x.told(6), 0);
        String before = all(x);
        is("gone", x.letOut(0), NOT);
        is("no such", x.letOut(2), UNKNOWN);
        is("no such below", x.letOut(-1), UNKNOWN);
        isSame("refused", all(x), before);
    }

    // promise 10
    private static void lettingGo() {
        BoundBraces x = Due.told(ONE);
        is("its notch", x.letGo(1), 3);
        is("gone", x.strap(1, 5), 2);
        is("the notch stays", x.strap(1, 3), 3);
        is("he is free on it", x.goes(0, 1, 0), 0);
        is("held on the other", x.member(0, 5), 1);
        String before = all(x);
        is("gone twice", x.letGo(1), NOT);
        is("no such", x.letGo(2), UNKNOWN);
        is("no such below", x.letGo(-1), UNKNOWN);
        isSame("refused", all(x), before);
        BoundBraces y = Due.told("q1;m0 0 50 0;s0 0 1 1;");
        y.put(0);
        is("it gave", y.strap(0, 5), 1);
        is("what gave is gone", y.letGo(0), NOT);
        is("and not let out", y.letOut(0), NOT);
    }

    // promise 11
    private static void saying() {
        BoundBraces x = Due.told(ONE);
        is("no such member", x.say(1, 8, true, 10), UNKNOWN);
        is("no such matter", x.say(0, 8, true, 1), OUTSIDE);
        is("no such matter below", x.say(0, -1, true, 1), OUTSIDE);
        is("no notch", x.say(0, 0, true, 0), OUTSIDE);
        is("ten notches", x.say(0, 0, true, 10), OUTSIDE);
        is("straps as they were", x.told(2), 2);
        is("nothing to undo", x.told(14), 0);
        is("said", x.say(0, 7, false, 9), 2);
        int[] want = {0, 7, 0, 9, 0, 0};
        for (int what = 0; what <= 5; what++) {
            is("said: strap(2, " + what + ")", x.strap(2, what), want[what]);
        }
        is("said for it", x.strap(x.say(0, 6, true, 1), 2), 1);
        x.letGo(2);
        for (int s = 4; s < 12; s++) {
            is("said on", x.say(0, 4, true, 1), s);
        }
        is("with those gone, full", x.say(0, 4, true, 1), FULL);
        is("full, no member", x.say(1, 4, true, 1), UNKNOWN);
        is("full, no matter", x.say(0, 8, true, 1), OUTSIDE);
        is("twelve", x.told(2), 12);
        is("new: no member", new BoundBraces().say(0, 0, true, 1), UNKNOWN);
    }

    // promise 12
    private static void sessions() {
        BoundBraces x = Due.told("q9;m0 0 2 0;m1 0 2 0;m2 0 2 0;m3 0 2 0;s0 0 1 9;s1 0 1 1;s0 1 1 9;");
        x.put(0);
        x.put(0);
        x.put(0);
        x.put(1);
        x.letGo(2);
        strainIs(x, "ahead", 3, 6, 1);
        is("a session", x.session(), 1);
        strainIs(x, "behind", 1, 3, 0);
        is("plain weighs", x.member(0, 2), 2);
        is("old weighs", x.member(1, 2), 1);
        is("on toes weighs", x.member(2, 2), 2);
        is("founder weighs", x.member(3, 2), 2);
        is("another", x.session(), 2);
        strainIs(x, "behind two", 0, 1, 0);
        is("1 at least", x.member(1, 2), 1);
        is("told", x.told(7), 2);
        is("puts stay", x.told(4), 4);
        BoundBraces z = Due.told("q1;m1 0 99 0;");
        z.session();
        is("1 less", z.member(0, 2), 98);
        // the old one hangs when he has shrunk
        BoundBraces y = Due.told("q1;m1 0 3 1;s0 1 1 3;");
        is("does not hang", y.told(9), 0);
        y.session();
        is("hangs", y.told(9), 1);
        is("and does not go", y.goes(0, 0, 0), 2);
        is("no house", new BoundBraces().session(), NOT);
        is("no members", Due.told("q1;").session(), 1);
    }

    // promise 13
    private static void drifting() {
        BoundBraces x = Due.told(FOUR);
        String before = all(x);
        is("drift(0)", x.drift(0), OUTSIDE);
        is("drift(21)", x.drift(21), OUTSIDE);
        is("drift(-1)", x.drift(-1), OUTSIDE);
        isSame("refused", all(x), before);
        is("no house", new BoundBraces().drift(20), NOT);
        is("no house, outside", new BoundBraces().drift(21), OUTSIDE);
        BoundBraces y = Due.told(FOUR);
        y.seed(103);
        is("drift(8)", y.drift(8), 0);
        is("each is a deed", y.told(14), 8);
        is("puts", y.told(4), 6);
        is("passed", y.told(5), 2);
        is("let out to none", y.strap(6, 5), 2);
        y.drift(20);
        is("24 at most", y.told(14), 24);
        // seed 0: 12345 / 65536 is 0 (put), then 1406932606 / 65536 = 21468, by 8 is 4
        BoundBraces z = Due.told("q1;m0 0 9 16;");
        is("one draw", z.drift(1), 0);
        is("a put", z.told(4), 1);
        is("of matter 4, which passes", z.told(5), 1);
        is("the seed behind two draws", z.seed(0), 1406932606);
        // seed 5 draws 7, a session; seeds 1 and 11 draw 6 and 5, and then the one strap
        z.seed(5);
        z.drift(1);
        is("a session by draws", z.told(7), 1);
        is("no put by it", z.told(4), 1);
        BoundBraces v = Due.told("q1;m0 0 9 16;s0 0 1 2;");
        v.seed(1);
        v.drift(1);
        is("let out by draws", v.strap(0, 3), 1);
        v.seed(11);
        v.drift(1);
        is("let go by draws", v.strap(0, 5), 2);
        v.seed(11);
        is("it is gone", v.drift(1), 0);
        is("a deed all the same", v.told(14), 3);
        is("three draws", v.seed(0), (int) ((819509505L * 1103515245L + 12345L) % 2147483648L));
        // without straps, 5 and 6 draw no third time but are deeds
        BoundBraces w = Due.told("q1;");
        w.drift(20);
        is("all are deeds", w.told(14), 20);
        long seed = 0;
        for (int i = 0; i < 40; i++) {
            seed = (seed * 1103515245L + 12345L) % 2147483648L;
        }
        is("two draws each", w.seed(0), (int) seed);
    }

    // promise 14
    private static void undoing() {
        BoundBraces x = Due.told(FOUR);
        x.seed(9);
        String start = all(x);
        x.put(1);
        x.letOut(6);
        x.letGo(0);
        x.say(2, 2, true, 3);
        x.session();
        is("five", x.told(14), 5);
        is("undo(6)", x.undo(6), NOT);
        is("undo(0)", x.undo(0), OUTSIDE);
        is("undo(25)", x.undo(25), OUTSIDE);
        is("undo(-1)", x.undo(-1), OUTSIDE);
        is("five still", x.told(14), 5);
        is("the session", x.undo(1), 1);
        is("weight again", x.member(1, 2), 9);
        is("strain again", x.strap(2, 4), 2);
        is("what was said", x.undo(1), 1);
        is("straps", x.told(2), 7);
        is("let go and let out", x.undo(2), 1);
        is("all hold", x.told(8), 127);
        is("the put", x.undo(1), 0);
        isSame("as at first", all(x), start);
    }

    private static void undoingDraws() {
        BoundBraces x = Due.told(FOUR);
        x.seed(9);
        String start = all(x);
        x.drift(3);
        int seed = x.seed(9);
        x.seed(seed);
        is("undo of draws", x.undo(3), 0);
        is("the seed stays", x.seed(9), seed);
        isSame("as at first", all(x), start);
        // what is seen and the book are no part of it
        x.put(0);
        x.see(1, 1);
        x.write(0, 0, 0);
        x.undo(1);
        is("seen stays", x.told(12), 1);
        is("book stays", x.told(13), 1);
        // a strap that was undone is said anew
        x.say(0, 3, true, 9);
        x.undo(1);
        is("again", x.say(1, 4, false, 2), 7);
        is("its member", x.strap(7, 0), 1);
        is("its strain", x.strap(7, 4), 0);
    }

    private static void undoKeepsTwentyFour() {
        BoundBraces x = Due.told("q9;m0 0 9 0;");
        for (int i = 0; i < 25; i++) {
            x.put(0);
        }
        is("24", x.told(14), 24);
        is("to the first", x.undo(24), 1);
        is("no more", x.undo(1), NOT);
        x.put(0);
        x.put(0);
        is("from there", x.undo(1), 2);
        is("and again", x.undo(1), 1);
        x.put(0);
        x.undo(9);
        is("refused as a whole", x.told(4), 2);
    }

    // promise 15
    private static void goesAndPull() {
        BoundBraces x = Due.told(FOUR);
        int[][] way = {{0, 1, 0, 0}, {1, 1, 2, 2}, {2, 2, 0, 2}, {1, 2, 1, 2}};
        int[][] pull = {{-3, 0, 0, 0}, {4, 3, 0, 0}, {0, 0, -7, 0}, {2, 0, 1, 0}};
        for (int m = 0; m < 4; m++) {
            for (int t = 0; t < 4; t++) {
                is("goes(" + m + ", " + t + ", 0)", x.goes(m, t, 0), way[m][t]);
                is("goes(" + m + ", " + t + ", 1)", x.goes(m, t, 1), pull[m][t] + 1000);
            }
        }
        is("goes(4, 8, 2)", x.goes(4, 8, 2), UNKNOWN);
        is("goes(-1, 0, 0)", x.goes(-1, 0, 0), UNKNOWN);
        is("goes(0, 8, 0)", x.goes(0, 8, 0), OUTSIDE);
        is("goes(0, -1, 0)", x.goes(0, -1, 0), OUTSIDE);
        is("goes(0, 0, 2)", x.goes(0, 0, 2), OUTSIDE);
        is("goes(0, 0, -1)", x.goes(0, 0, -1), OUTSIDE);
        // as much as his weight is not yet more
        BoundBraces y = Due.told("q1;m0 0 5 1;m0 0 4 1;s0 1 1 5;s1 1 1 5;");
        is("5 of 5", y.goes(0, 0, 0), 1);
        is("5 of 4", y.goes(1, 0, 0), 2);
    }

    // promise 16
    private static void mattersTried() {
        BoundBraces x = Due.told(FOUR);
        int[][] want = {
            {1, 1002, 33, 0, 4},
            {1, 1002, 12, 0, 2},
            {0, 1000, 80, 16, 2},
            {0, 999, 0, NONE, NONE},
        };
        for (int t = 0; t < 4; t++) {
            for (int what = 0; what <= 4; what++) {
                is("matter(" + t + ", " + what + ")", x.matter(t, what), want[t][what]);
            }
        }
        is("matter(8, 0)", x.matter(8, 0), OUTSIDE);
        is("matter(-1, 0)", x.matter(-1, 0), OUTSIDE);
        is("matter(0, 5)", x.matter(0, 5), OUTSIDE);
        is("matter(0, -1)", x.matter(0, -1), OUTSIDE);
        is("passes by one", Due.told(ONE).matter(0, 0), 1);
        is("those that pass by one", Due.told(ONE).told(11), 3);
        is("creaks, asked first", Due.told(FOUR).matter(0, 2), 33);
        // 9 notches of 9 strains, by one each: the 81st; on his toes, not hanging: never
        is("81", Due.told("q9;m0 0 99 0;s0 0 1 9;").matter(0, 4), 81);
        is("never", Due.told("q9;m2 0 99 0;s0 0 1 9;").matter(0, 4), NONE);
        is("at once", Due.told("q1;m1 0 99 0;s0 0 1 2;").matter(0, 4), 1);
    }

    private static void leastLooksAtAllStraps() {
        // he hangs by a strap on another matter: let go, he goes as he would
        BoundBraces x = Due.told("q1;m0 0 3 1;s0 5 1 2;s0 6 1 2;");
        is("hangs", x.matter(0, 0), 0);
        is("either will do, the least", x.matter(0, 3), 1);
        // two are needed, and of the pairs the least set
        BoundBraces y = Due.told("q1;m0 0 9 1;m0 0 9 1;m0 0 9 1;s2 0 0 1;s1 0 0 1;s0 0 0 1;");
        is("two of three", y.matter(0, 3), 3);
        y.letGo(0);
        is("one of those that hold", y.matter(0, 3), 2);
        // fewest goes ahead of least: 0 and 1 bind the same man twice, 2 alone binds the other
        BoundBraces z = Due.told("q1;m0 0 9 1;m0 0 9 1;m0 0 9 1;s0 0 0 1;s0 0 0 1;s1 0 0 1;");
        is("the one strap", z.matter(0, 3), 4);
        // a founder who hangs has two votes: to let him down is enough
        BoundBraces w = Due.told("q1;m0 0 9 1;m0 0 9 1;m3 0 1 0;s2 0 0 1;s2 3 0 1;");
        is("two against two", w.matter(0, 1), 1000);
        is("he is let down", w.matter(0, 3), 1);
        // six founders, hung: twelve votes against; five of them let down are five for, two against
        BoundBraces v = Due.told("q1;m3 0 1 1;m3 0 1 1;m3 0 1 1;m3 0 1 1;m3 0 1 1;m3 0 1 1;"
            + "s0 0 0 2;s1 0 0 2;s2 0 0 2;s3 0 0 2;s4 0 0 2;s5 0 0 2;");
        is("twelve against", v.matter(0, 1), 1000 - 12);
        is("five of six", v.matter(0, 3), 31);
        BoundBraces u = Due.told("q1;m3 0 1 0;m3 0 1 0;m3 0 1 0;m3 0 1 0;m3 0 1 0;m3 0 1 0;"
            + "s0 0 1 2;s1 0 1 2;s2 0 1 2;s3 0 1 2;s4 0 1 2;s5 0 1 2;");
        is("twelve for", u.matter(0, 1), 1000 + 12);
        is("none need be let go", u.matter(0, 3), 0);
        is("there is no way", Due.told("q1;m0 0 9 0;m0 0 9 1;s0 1 1 1;").matter(0, 3), NONE);
    }

    // promise 17
    private static void agendas() {
        // matter 1 passes by a strap that gives then; only then does he not hang, and matter 0 passes
        BoundBraces x = Due.told("q1;m0 0 3 1;s0 1 1 1;s0 2 1 3;");
        is("both", x.agenda(3, 0), 2);
        is("1 ahead of 0", x.agenda(3, 1), 21);
        is("alone", x.agenda(1, 0), 0);
        is("alone, figure", x.agenda(1, 1), 1);
        is("none passes: the least", x.agenda(96, 1), 67);
        is("none passes", x.agenda(96, 0), 0);
        is("nothing", x.agenda(0, 0), 0);
        is("nothing, no figures", x.agenda(0, 1), 0);
        is("five", x.agenda(1 + 2 + 8 + 16 + 128, 1), 21458);
        is("five, how many", x.agenda(1 + 2 + 8 + 16 + 128, 0), 2);
        is("six", x.agenda(63, 0), OUTSIDE);
        is("256", x.agenda(256, 0), OUTSIDE);
        is("-1", x.agenda(-1, 0), OUTSIDE);
        is("what 2", x.agenda(3, 2), OUTSIDE);
        is("what -1", x.agenda(3, -1), OUTSIDE);
        is("four, 1 and 0 and 2", Due.told(FOUR).agenda(7, 1), 123);
        is("four, how many", Due.told(FOUR).agenda(7, 0), 2);
    }

    // promise 18
    private static void powers() {
        BoundBraces x = Due.told(FOUR);
        is("old, on 0", x.power(1, 0), 1);
        is("founder, on 0", x.power(3, 0), 1);
        is("plain goes against it", x.power(0, 0), 0);
        is("on 1", x.power(0, 1), 1);
        is("half is not enough", x.power(3, 2), 0);
        is("power(4, 8)", x.power(4, 8), UNKNOWN);
        is("power(-1, 0)", x.power(-1, 0), UNKNOWN);
        is("power(0, 8)", x.power(0, 8), OUTSIDE);
        is("power(0, -1)", x.power(0, -1), OUTSIDE);
        // six alike: the fourth of each order, 720 / 6
        BoundBraces y = Due.told("q1;m0 0 1 1;m0 0 1 1;m0 0 1 1;m0 0 1 1;m0 0 1 1;m0 0 1 1;");
        for (int m = 0; m < 6; m++) {
            is("six alike", y.power(m, 0), 120);
        }
        // votes 2, 1, 1, 1 for, of 5: the founder turns it from the second and third place
        BoundBraces z = Due.told("q1;m3 0 1 0;m0 0 9 1;m0 0 9 1;m0 0 9 1;s0 0 1 2;");
        is("founder", z.power(0, 0), 12);
        is("each other", z.power(1, 0), 4);
    }

    // promise 19
    private static void quietNights() {
        BoundBraces x = new BoundBraces();
        is("no night", x.quiet(0, 0), 1000000000);
        is("never", x.quiet(1, 0), 0);
        is("always", x.quiet(60, 100), 1000000000);
        is("two of 90", x.quiet(2, 90), 810000000);
        is("cut each time", x.quiet(60, 99), 547156620);
        is("cut to none", x.quiet(10, 1), 0);
        is("4 by 1", x.quiet(4, 1), 10);
        is("5 by 33", x.quiet(5, 33), 3913539);
        is("quiet(61, 1)", x.quiet(61, 1), OUTSIDE);
        is("quiet(-1, 1)", x.quiet(-1, 1), OUTSIDE);
        is("quiet(1, 101)", x.quiet(1, 101), OUTSIDE);
        is("quiet(1, -1)", x.quiet(1, -1), OUTSIDE);
    }

    // promises 20, 21, 22
    private static void seenOnes() {
        BoundBraces x = Due.told(FOUR);
        is("see(8, 0)", x.see(8, 0), OUTSIDE);
        is("see(-1, 0)", x.see(-1, 0), OUTSIDE);
        is("see(0, 3)", x.see(0, 3), OUTSIDE);
        is("see(0, -1)", x.see(0, -1), OUTSIDE);
        is("all could be", x.couldBe(), 15);
        is("on 0: 1, 2, 1", x.next(), 0);
        is("see(0, 1)", x.see(0, 1), 1);
        is("old, founder", x.couldBe(), 10);
        is("told apart on 1", x.next(), 1);
        x.letGo(5);
        is("by straps as now", x.couldBe(), 2);
        is("one is not parted", x.next(), NONE);
        x.undo(1);
        for (int n = 2; n <= 6; n++) {
            is("seen", x.see(3, 2), n);
        }
        is("a seventh", x.see(0, 0), FULL);
        is("a seventh outside", x.see(8, 0), OUTSIDE);
        is("six", x.told(12), 6);
        is("tear", x.tear(), 6);
        x.see(2, 1);
        x.see(2, 0);
        is("none could be", x.couldBe(), 0);
        is("none is parted", x.next(), NONE);
        x.tear();
        x.see(2, 1);
        is("by matter 2", x.couldBe(), 8);
        BoundBraces y = Due.told("q1;m0 0 9 5;m0 0 9 5;m0 0 9 5;");
        is("alike everywhere", y.next(), NONE);
        // on 1 they part 3 to 1, on 2 two and two, on 3 as well
        BoundBraces z = Due.told("q1;m0 0 9 14;m0 0 9 12;m0 0 9 0;m0 0 9 0;");
        is("the least greatest part", z.next(), 2);
        is("without a house", new BoundBraces().see(0, 2), 1);
    }

    // promises 23, 24, 25
    private static void theBook() {
        BoundBraces x = Due.told(FOUR);
        is("write(4, 8, 3)", x.write(4, 8, 3), UNKNOWN);
        is("write(-1, 0, 0)", x.write(-1, 0, 0), UNKNOWN);
        is("write(0, 8, 0)", x.write(0, 8, 0), OUTSIDE);
        is("write(0, -1, 0)", x.write(0, -1, 0), OUTSIDE);
        is("write(0, 0, 3)", x.write(0, 0, 3), OUTSIDE);
        is("write(0, 0, -1)", x.write(0, 0, -1), OUTSIDE);
        is("an empty book", x.judge(), NONE);
        is("right", x.write(0, 0, 0), 1);
        is("right too", x.write(2, 0, 2), 2);
        is("none is wrong", x.judge(), NONE);
        is("wrong", x.write(1, 0, 0), 3);
        is("wrong too", x.write(1, 1, 0), 4);
        is("the first", x.judge(), 2);
        x.letGo(4);
        is("as it is now", x.judge(), 1);
        for (int n = 5; n <= 20; n++) {
            is("entries", x.write(0, 0, 0), n);
        }
        is("a 21st", x.write(0, 0, 0), FULL);
        is("a 21st outside", x.write(0, 8, 0), OUTSIDE);
        is("a 21st of none", x.write(4, 0, 0), UNKNOWN);
        x.see(0, 0);
        x.see(0, 0);
        is("tear", x.tear(), 22);
        is("no book", x.judge(), NONE);
        is("nothing seen", x.told(12), 0);
        is("no entry", x.told(13), 0);
        is("tear again", x.tear(), 0);
        is("what could be undone stays", x.told(14), 1);
        x.write(3, 1, 2);
        is("of matter 1", x.judge(), NONE);
        x.tear();
        x.write(3, 1, 1);
        is("the first of all", x.judge(), 0);
    }

    // promise 26
    private static void seeds() {
        BoundBraces x = new BoundBraces();
        is("at first", x.seed(2147483647), 0);
        is("outside", x.seed(-1), OUTSIDE);
        is("least", x.seed(Integer.MIN_VALUE), OUTSIDE);
        is("greatest", x.seed(3), 2147483647);
        is("three", x.seed(0), 3);
    }

    // promises 27, 28
    private static void images() {
        BoundBraces x = Due.told(ONE);
        is("keep(2)", x.keep(2), UNKNOWN);
        is("keep(-1)", x.keep(-1), UNKNOWN);
        is("goBack(2)", x.goBack(2), UNKNOWN);
        is("goBack(-1)", x.goBack(-1), UNKNOWN);
        is("not kept", x.goBack(0), NOT);
        x.put(0);
        x.seed(11);
        is("keep(0)", x.keep(0), 1);
        is("nothing can be undone", x.told(14), 0);
        is("the other is not kept", x.goBack(1), NOT);
        String first = all(x);
        x.say(0, 5, true, 4);
        x.session();
        x.seed(12);
        is("keep(1)", x.keep(1), 1);
        String second = all(x);
        x.letGo(0);
        x.letOut(2);
        x.put(1);
        x.seed(13);
        is("goBack(0)", x.goBack(0), 1);
        isSame("image 0", all(x), first);
        is("its seed", x.seed(99), 11);
        is("nothing to undo", x.undo(1), NOT);
        x.say(0, 6, false, 8);
        is("goBack(1)", x.goBack(1), 1);
        isSame("image 1", all(x), second);
        is("its seed too", x.seed(0), 12);
        x.see(0, 1);
        x.write(0, 0, 1);
        x.put(0);
        is("back again", x.goBack(0), 1);
        is("seen stays", x.told(12), 1);
        is("the book stays", x.told(13), 1);
        x.put(0);
        x.keep(0);
        x.put(0);
        x.goBack(0);
        is("what was kept last", x.told(4), 2);
        BoundBraces y = new BoundBraces();
        y.seed(4);
        is("kept without a house", y.keep(1), 1);
        y.seed(5);
        is("and gone back to", y.goBack(1), 1);
        is("with its seed", y.seed(0), 4);
    }

    private static void tryingChangesNothing() {
        BoundBraces x = Due.told(FOUR);
        x.put(1);
        x.seed(8);
        String before = all(x);
        for (int t = 0; t < 8; t++) {
            for (int what = 0; what <= 4; what++) {
                x.matter(t, what);
            }
            x.power(3, t);
            x.goes(2, t, 0);
        }
        x.agenda(31, 0);
        x.quiet(3, 50);
        x.couldBe();
        x.next();
        x.judge();
        isSame("tried", all(x), before);
        is("the seed", x.seed(0), 8);
        is("one deed", x.undo(1), 0);
    }
}
