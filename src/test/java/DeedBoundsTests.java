/** Section 2 and promises 7 to 14: each sentence that names a boundary of what is done has a test of its own. */
public final class DeedBoundsTests {
    private static final int NOT = -1000000003, FULL = -1000000004;
    private static final int HOLDS = 0, GAVE = 1, LET_GO = 2;

    public static void main(String[] args) {
        hangsWithMoreThanHisWeight();
        hangsByStrapsThatHold();
        hangsWithTheMost();
        pullAboveZero();
        pullBelowZero();
        pullOfZero();
        pullIsOfHisStrapsOnIt();
        pullAtItsMost();
        whoHangsThenDoesNotGo();
        heldGoesOtherwise();
        heldOnAllMatters();
        aFounderHasTwoVotesWhileHeHangs();
        otherKindsHaveOneVote();
        passesWithMoreVotes();
        passesNotWithoutVotes();
        strainByKind();
        strainByKindOfWhoHangs();
        strainOfWhoIsNotHeld();
        strainOfWhoIsPulledBothWays();
        strainOnItAlone();
        strainOfThoseThatHold();
        givesAtQTimesItsNotch();
        givesAboveQTimesItsNotch();
        givesAfter81();
        givesAllAtOnce();
        givesTwelveAtOnce();
        givesBehindThePassing();
        givesOnItAlone();
        givesWithoutMoreStrain();
        givesOnce();
        aStrapWithoutANotchGivesNot();
        lettingOutToNone();
        lettingOutFromNine();
        lettingGo();
        sayingTwelve();
        sayingWithThoseThatAreGone();
        sayingAtItsBounds();
        theOldWeighOneAtLeast();
        onlyTheOldShrink();
        theOldShrinkTo98Times();
        strainsAreHalfCut();
        strainsOfThoseGoneAreHalf();
        countsBeginAtZero();
        driftingAtItsBounds();
        driftingWithoutStraps();
        driftingOnStrapsThatAreGone();
        theSeedWrapsAround();
        undoingTwentyFour();
        undoingDraws();
        undoingWhatWasSaid();
        undoingSinceTheImage();
        undoingTwiceTheRing();
        theSeedStays();
        putIsFullAt90000();
        sessionIsFullAt90000();
        Due.done();
    }

    private static void is(String call, int got, int want) {
        Due.is(call, got, want);
    }

    private static void strains(BoundBraces x, int... want) {
        for (int s = 0; s < want.length; s++) {
            is("strain of " + s, x.strap(s, 4), want[s]);
        }
    }

    private static void fates(BoundBraces x, int... want) {
        for (int s = 0; s < want.length; s++) {
            is("fate of " + s, x.strap(s, 5), want[s]);
        }
    }

    private static void hangsWithMoreThanHisWeight() {
        Due.says("One HANGS whose NOTCHES .. are together more than his WEIGHT");
        is("5 of 5", Due.told("q1;m0 0 5 1;s0 1 1 5;").told(9), 0);
        is("5 of 4", Due.told("q1;m0 0 4 1;s0 1 1 5;").told(9), 1);
        is("4 of 5", Due.told("q1;m0 0 5 1;s0 1 1 4;").told(9), 0);
        is("1 of 1", Due.told("q1;m0 0 1 1;s0 1 1 1;").told(9), 0);
        is("2 of 1", Due.told("q1;m0 0 1 1;s0 1 1 2;").told(9), 1);
        is("none of 1", Due.told("q1;m0 0 1 1;").told(9), 0);
        BoundBraces x = Due.told("q1;m0 0 5 1;s0 1 1 3;s0 2 0 3;");
        is("3 and 3 of 5", x.told(9), 1);
        x.letOut(1);
        is("3 and 2 of 5", x.told(9), 0);
        x.say(0, 7, false, 1);
        is("3, 2 and 1 of 5", x.told(9), 1);
    }

    private static void hangsByStrapsThatHold() {
        Due.says("NOTCHES of all STRAPS that HOLD");
        BoundBraces x = Due.told("q1;m0 0 5 1;m0 0 5 1;s0 1 1 3;s0 0 0 1;s0 2 1 2;s1 5 1 6;");
        is("6 of 5, both", x.told(9), 3);
        x.put(0);
        is("one gave", x.strap(1, 5), GAVE);
        is("5 of 5", x.told(9), 2);
        x.say(0, 3, true, 1);
        is("6 of 5 again", x.told(9), 3);
        x.letGo(0);
        is("one let go", x.told(9), 2);
        is("all hang", Due.told("q1;m0 0 1 0;m1 0 1 0;m2 0 1 0;m3 0 1 0;m0 1 1 0;m1 1 1 0;"
            + "s0 0 0 2;s1 0 0 2;s2 0 0 2;s3 0 0 2;s4 0 0 2;s5 0 0 2;").told(9), 63);
    }

    private static void hangsWithTheMost() {
        Due.says("12 STRAPS of NOTCH 9 and WEIGHT 99");
        String eleven = "q9;m0 0 99 0;" + "s0 0 1 9;".repeat(11);
        is("99 of 99", Due.told(eleven).told(9), 0);
        is("100 of 99", Due.told(eleven + "s0 7 0 1;").told(9), 1);
        is("108 of 99", Due.told(eleven + "s0 7 0 9;").told(9), 1);
    }

    private static void pullAboveZero() {
        Due.says("He goes FOR it, if that is above 0");
        BoundBraces x = Due.told("q9;m0 0 99 0;s0 3 1 5;s0 3 0 4;");
        is("pull", x.goes(0, 3, 1), 1001);
        is("goes", x.goes(0, 3, 0), 1);
        is("he would not", x.member(0, 5), 8);
    }

    private static void pullBelowZero() {
        Due.says("AGAINST, if below");
        BoundBraces x = Due.told("q9;m0 0 99 255;s0 3 1 4;s0 3 0 5;");
        is("pull", x.goes(0, 3, 1), 999);
        is("goes", x.goes(0, 3, 0), 0);
        is("he would", x.member(0, 5), 8);
    }

    private static void pullOfZero() {
        Due.says("else as he would (for, if it is in his SET)");
        BoundBraces x = Due.told("q9;m0 0 99 8;m0 0 99 247;s0 3 1 4;s0 3 0 4;s1 3 0 1;s1 3 1 1;");
        is("pull", x.goes(0, 3, 1), 1000);
        is("for", x.goes(0, 3, 0), 1);
        is("pull", x.goes(1, 3, 1), 1000);
        is("against", x.goes(1, 3, 0), 0);
        is("not held", x.member(0, 5), 0);
        is("nor the other", x.member(1, 5), 0);
        for (int t = 0; t < 8; t++) {
            is("without straps on " + t, x.goes(0, t, 0), t == 3 ? 1 : 0);
            is("without straps on " + t, x.goes(1, t, 0), t == 3 ? 0 : 1);
        }
    }

    private static void pullIsOfHisStrapsOnIt() {
        Due.says("PULL of a MEMBER on a MATTER: NOTCHES of his STRAPS on it that HOLD");
        BoundBraces x = Due.told("q1;m0 0 99 0;m0 0 99 0;s0 3 1 5;s1 3 0 4;s0 4 1 9;s0 3 0 2;");
        is("his", x.goes(0, 3, 1), 1003);
        is("the other's", x.goes(1, 3, 1), 996);
        is("on 4", x.goes(0, 4, 1), 1009);
        x.letOut(0);
        is("let out", x.goes(0, 3, 1), 1002);
        x.letGo(0);
        is("let go", x.goes(0, 3, 1), 998);
        x.letGo(3);
        is("none that holds", x.goes(0, 3, 1), 1000);
    }

    private static void pullAtItsMost() {
        Due.says("PULL (what 1), and 1000");
        BoundBraces x = Due.told("q9;m0 0 99 0;" + "s0 7 1 9;".repeat(12));
        is("for", x.goes(0, 7, 1), 1108);
        is("goes", x.goes(0, 7, 0), 1);
        BoundBraces y = Due.told("q9;m0 0 99 255;" + "s0 7 0 9;".repeat(12));
        is("against", y.goes(0, 7, 1), 892);
        is("goes", y.goes(0, 7, 0), 0);
    }

    private static void whoHangsThenDoesNotGo() {
        Due.says("but who HANGS then does not go at all");
        BoundBraces x = Due.told("q9;m0 0 1 3;s0 0 1 2;s0 1 1 1;s0 1 0 1;");
        is("by his strap he goes", x.goes(0, 0, 0), 1);
        is("pulled both ways alike", x.goes(0, 1, 0), 2);
        is("without a strap on it", x.goes(0, 2, 0), 2);
        is("held on none", x.member(0, 5), 0);
        is("margin without him", x.matter(1, 1), 1000);
        is("put(1)", x.put(1), 0);
        strains(x, 0, 0, 0);
        x.letGo(0);
        is("2 of 1: hangs still", x.goes(0, 1, 0), 2);
        x.letGo(1);
        is("let down, held against", x.goes(0, 1, 0), 0);
        is("and goes as he would", x.goes(0, 0, 0), 1);
    }

    private static void heldGoesOtherwise() {
        Due.says("HELD on a MATTER is one who goes otherwise than he would");
        BoundBraces x = Due.told("q9;m0 0 99 5;s0 0 1 1;s0 1 1 1;s0 2 0 1;s0 3 0 1;");
        is("on 1 and 2", x.member(0, 5), 6);
        x.letGo(2);
        is("on 1", x.member(0, 5), 2);
        BoundBraces y = Due.told("q9;m0 0 1 128;s0 7 0 2;");
        is("who hangs, by his strap", y.member(0, 5), 128);
    }

    private static void heldOnAllMatters() {
        Due.says("MATTERS on which he is HELD (a SET)");
        String straps = "";
        for (int t = 0; t < 8; t++) {
            straps += "s0 " + t + " 0 1;";
        }
        is("all", Due.told("q9;m0 0 99 255;" + straps).member(0, 5), 255);
        is("hanging, all", Due.told("q9;m0 0 1 255;" + straps).member(0, 5), 255);
        is("none", Due.told("q9;m0 0 99 0;" + straps).member(0, 5), 0);
    }

    private static void aFounderHasTwoVotesWhileHeHangs() {
        Due.says("one of KIND 3 (founder), while he HANGS, two");
        BoundBraces x = Due.told("q9;m3 0 3 0;s0 0 1 3;");
        is("3 of 3: one", x.matter(0, 1), 1001);
        x.say(0, 1, false, 1);
        is("4 of 3: two", x.matter(0, 1), 1002);
        is("two against", x.matter(1, 1), 998);
        is("none where he does not go", x.matter(2, 1), 1000);
        x.letOut(0);
        is("3 of 3: one again", x.matter(0, 1), 1001);
        is("he goes as he would", x.matter(2, 1), 999);
    }

    private static void otherKindsHaveOneVote() {
        Due.says("each MEMBER that goes has one VOTE");
        for (int kind = 0; kind < 3; kind++) {
            is("kind " + kind + " hanging", Due.told("q9;m" + kind + " 0 1 0;s0 0 1 3;").matter(0, 1), 1001);
            is("kind " + kind + " not", Due.told("q9;m" + kind + " 0 9 0;s0 0 1 3;").matter(0, 1), 1001);
        }
        is("six", Due.told("q9;" + "m0 0 1 1;".repeat(6)).matter(0, 1), 1006);
        is("six against", Due.told("q9;" + "m0 0 1 0;".repeat(6)).matter(0, 1), 994);
    }

    private static void passesWithMoreVotes() {
        Due.says("It PASSES with more VOTES FOR than AGAINST");
        BoundBraces x = Due.told("q9;m0 0 9 3;m0 0 9 5;m0 0 9 1;m0 0 9 8;");
        is("3 to 1", x.put(0), 1);
        is("1 to 3", x.put(1), 0);
        BoundBraces y = Due.told("q9;m0 0 9 3;m0 0 9 1;");
        is("2 to 0", y.put(0), 1);
        is("1 to 1", y.put(1), 0);
        is("0 to 2", y.put(2), 0);
        is("put ones", y.told(4), 3);
        is("passed ones", y.told(5), 1);
        is("would pass", y.told(11), 1);
        BoundBraces z = Due.told("q9;m3 0 1 0;m0 0 9 0;m0 0 9 0;s0 0 1 2;");
        is("a founder's two to two", z.put(0), 0);
        BoundBraces w = Due.told("q9;m3 0 1 0;m0 0 9 0;s0 0 1 2;");
        is("a founder's two to one", w.put(0), 1);
    }

    private static void passesNotWithoutVotes() {
        Due.says("PASSES, when none goes");
        BoundBraces x = Due.told("q9;m0 0 1 255;s0 7 1 2;");
        is("none goes", x.put(0), 0);
        is("put ones", x.told(4), 1);
        is("passed ones", x.told(5), 0);
        is("one goes", x.put(7), 1);
        is("no members", Due.told("q9;").put(0), 0);
    }

    /** Held for matter 0 by 5 against 2: strain by which he goes, against which he goes. */
    private static void strainsOf(int kind, int weight, int would, int by, int against) {
        BoundBraces x = Due.told("q9;m" + kind + " 0 " + weight + " " + would + ";s0 0 1 5;s0 0 0 2;");
        is("kind " + kind + " of " + weight + ": put(0)", x.put(0), 1);
        strains(x, by, against);
    }

    private static void strainByKind() {
        Due.says("of a MEMBER that is HELD, those by which he goes, by KIND");
        strainsOf(0, 7, 0, 1, 2);
        strainsOf(1, 7, 0, 2, 2);
        strainsOf(2, 7, 0, 0, 2);
        strainsOf(3, 7, 0, 1, 2);
    }

    private static void strainByKindOfWhoHangs() {
        Due.says("2 (on his toes) 1 if he HANGS, else 0");
        strainsOf(0, 6, 0, 1, 2);
        strainsOf(1, 6, 0, 2, 2);
        strainsOf(2, 6, 0, 1, 2);
        strainsOf(3, 6, 0, 1, 2);
    }

    private static void strainOfWhoIsNotHeld() {
        Due.says("and of each MEMBER, those against which he goes, 2 (so it is with all KINDS)");
        for (int kind = 0; kind < 4; kind++) {
            strainsOf(kind, 7, 1, 0, 2);
            strainsOf(kind, 6, 1, 0, 2);
        }
    }

    private static void strainOfWhoIsPulledBothWays() {
        Due.says("a PULL of 0: those against which he goes, 2");
        for (int kind = 0; kind < 4; kind++) {
            BoundBraces x = Due.told("q9;m" + kind + " 0 4 1;s0 0 1 2;s0 0 0 2;");
            x.put(0);
            strains(x, 0, 2);
            BoundBraces y = Due.told("q9;m" + kind + " 0 4 0;s0 0 1 2;s0 0 0 2;");
            y.put(0);
            strains(y, 2, 0);
            BoundBraces z = Due.told("q9;m" + kind + " 0 3 1;s0 0 1 2;s0 0 0 2;");
            z.put(0);
            strains(z, 0, 0);
            is("nor do they creak", z.matter(0, 2), 0);
        }
    }

    private static void strainOnItAlone() {
        Due.says("STRAIN (0 at first) of STRAPS on it");
        BoundBraces x = Due.told("q9;m1 0 99 0;s0 0 1 1;s0 7 1 1;");
        strains(x, 0, 0);
        x.put(7);
        strains(x, 0, 2);
        x.put(0);
        strains(x, 2, 2);
        x.put(3);
        strains(x, 2, 2);
    }

    private static void strainOfThoseThatHold() {
        Due.says("STRAPS on it that HOLD");
        BoundBraces x = Due.told("q9;m0 0 99 0;s0 0 1 3;s0 0 1 1;s0 0 0 1;");
        x.letGo(1);
        x.put(0);
        strains(x, 1, 0, 2);
        x.letGo(2);
        x.put(0);
        strains(x, 2, 0, 2);
    }

    private static void givesAtQTimesItsNotch() {
        Due.says("whose STRAIN is Q times its NOTCH or more GIVES");
        BoundBraces x = Due.told("q2;m0 0 99 0;s0 0 1 2;");
        for (int put = 1; put <= 3; put++) {
            is("put(0)", x.put(0), 1);
            fates(x, HOLDS);
            is("twangs", x.told(6), 0);
        }
        is("the fourth", x.put(0), 1);
        fates(x, GAVE);
        strains(x, 4);
        is("twangs", x.told(6), 1);
        is("those that hold", x.told(8), 0);
        is("its notch", x.strap(0, 3), 2);
        is("the fifth", x.put(0), 0);
    }

    private static void givesAboveQTimesItsNotch() {
        Due.says("or more GIVES");
        BoundBraces x = Due.told("q1;m1 0 99 0;s0 0 1 3;");
        x.put(0);
        fates(x, HOLDS);
        strains(x, 2);
        x.put(0);
        fates(x, GAVE);
        strains(x, 4);
    }

    private static void givesAfter81() {
        Due.says("a strap bears Q STRAINS for each NOTCH: 9 by 9");
        BoundBraces x = Due.told("q9;m0 0 99 0;s0 0 1 9;");
        for (int put = 1; put <= 80; put++) {
            x.put(0);
        }
        fates(x, HOLDS);
        strains(x, 80);
        is("the 81st is next", x.matter(0, 4), 1);
        x.put(0);
        fates(x, GAVE);
        is("put ones", x.told(4), 81);
        is("passed ones", x.told(5), 81);
    }

    private static void givesAllAtOnce() {
        Due.says("GIVES (a TWANG), all at once, behind that");
        BoundBraces x = Due.told("q1;m0 0 99 0;m1 0 99 0;s0 0 1 1;s0 0 1 1;s1 0 1 2;s1 0 0 1;s1 0 1 3;");
        is("put(0)", x.put(0), 1);
        strains(x, 1, 1, 2, 2, 2);
        fates(x, GAVE, GAVE, GAVE, GAVE, HOLDS);
        is("twangs", x.told(6), 4);
        is("those that hold", x.told(8), 16);
    }

    private static void givesTwelveAtOnce() {
        Due.says("12 STRAPS that GIVE at once");
        BoundBraces x = Due.told("q2;m1 0 99 0;" + "s0 7 1 1;".repeat(12));
        is("put(7)", x.put(7), 1);
        is("twangs", x.told(6), 12);
        is("those that hold", x.told(8), 0);
        is("put(7)", x.put(7), 0);
        is("twangs", x.told(6), 12);
        is("undo(2)", x.undo(2), 0);
        is("those that hold", x.told(8), 4095);
    }

    private static void givesBehindThePassing() {
        Due.says("It PASSES .. Then STRAIN");
        BoundBraces x = Due.told("q1;m0 0 99 0;s0 0 1 1;");
        is("by the strap that gives", x.put(0), 1);
        is("passed ones", x.told(5), 1);
        is("without it", x.put(0), 0);
        is("passed ones", x.told(5), 1);
    }

    private static void givesOnItAlone() {
        Due.says("One of these (on it, that HOLDS)");
        BoundBraces x = Due.told("q1;m0 0 99 0;s0 0 1 2;s0 1 1 2;");
        x.put(0);
        x.letOut(0);
        fates(x, HOLDS, HOLDS);
        x.put(1);
        fates(x, HOLDS, HOLDS);
        is("twangs", x.told(6), 0);
        x.put(0);
        fates(x, GAVE, HOLDS);
    }

    private static void givesWithoutMoreStrain() {
        Due.says("whose STRAIN is Q times its NOTCH or more, also by no more STRAIN");
        BoundBraces x = Due.told("q1;m0 0 99 0;s0 0 1 2;");
        x.put(0);
        x.letOut(0);
        x.say(0, 0, false, 1);
        x.letOut(1);
        x.say(0, 0, true, 9);
        is("strain ahead", x.strap(0, 4), 1);
        is("twang at the next", x.matter(0, 4), 1);
        x.put(0);
        fates(x, GAVE, LET_GO, HOLDS);
        // he goes as he would by a later strap: what is with him is not strained, but it is past bearing
        BoundBraces y = Due.told("q1;m0 0 99 0;s0 0 0 1;s0 0 1 2;");
        y.put(0);
        fates(y, GAVE, HOLDS);
        BoundBraces z = Due.told("q2;m0 0 99 0;s0 0 0 2;s0 0 1 3;");
        z.put(0);
        strains(z, 2, 1);
        z.letOut(0);
        z.letGo(1);
        is("he goes as he would", z.goes(0, 0, 0), 0);
        is("nothing creaks", z.matter(0, 2), 0);
        is("and yet", z.matter(0, 4), 1);
        z.put(0);
        strains(z, 2, 1);
        fates(z, GAVE, LET_GO);
        is("a twang", z.told(6), 1);
    }

    private static void givesOnce() {
        Due.says("A STRAP HOLDS, or it is GONE");
        BoundBraces x = Due.told("q1;m0 0 99 0;s0 0 1 1;s0 0 1 9;");
        x.put(0);
        fates(x, GAVE, HOLDS);
        x.put(0);
        strains(x, 1, 2);
        is("one twang", x.told(6), 1);
        is("it is not let go as well", x.letGo(0), NOT);
        fates(x, GAVE, HOLDS);
    }

    private static void aStrapWithoutANotchGivesNot() {
        Due.says("a STRAP without a NOTCH is LET GO, and GIVES no more");
        BoundBraces x = Due.told("q1;m0 0 99 0;s0 0 1 1;");
        x.letOut(0);
        is("would twang", x.matter(0, 4), -1);
        is("put(0)", x.put(0), 0);
        fates(x, LET_GO);
        is("twangs", x.told(6), 0);
        strains(x, 0);
    }

    private static void lettingOutToNone() {
        Due.says("a STRAP that HOLDS has one NOTCH less; with none it is LET GO");
        BoundBraces x = Due.told("q9;m0 0 1 0;s0 0 1 2;s0 3 1 1;");
        x.put(0);
        is("hangs", x.told(9), 1);
        is("NOTCH then", x.letOut(0), 1);
        fates(x, HOLDS, HOLDS);
        is("goes for it still", x.goes(0, 0, 0), 1);
        is("NOTCH then", x.letOut(0), 0);
        fates(x, LET_GO, HOLDS);
        is("its notch", x.strap(0, 3), 0);
        is("its strain stays", x.strap(0, 4), 1);
        is("those that hold", x.told(8), 2);
        is("his", x.member(0, 4), 2);
        is("pull", x.goes(0, 0, 1), 1000);
        is("hangs", x.told(9), 0);
        is("twangs", x.told(6), 0);
        is("no more", x.letOut(0), NOT);
        is("its notch", x.strap(0, 3), 0);
        is("undo", x.undo(1), 1);
        fates(x, HOLDS, HOLDS);
        is("its notch", x.strap(0, 3), 1);
    }

    private static void lettingOutFromNine() {
        Due.says("LET OUT: NOTCH then");
        BoundBraces x = Due.told("q9;m0 0 1 0;s0 0 1 9;");
        for (int notch = 8; notch >= 0; notch--) {
            is("letOut(0)", x.letOut(0), notch);
            is("its notch", x.strap(0, 3), notch);
            fates(x, notch > 0 ? HOLDS : LET_GO);
        }
        is("deeds", x.told(14), 9);
    }

    private static void lettingGo() {
        Due.says("LET GO: it HOLDS no more: NOTCH it had");
        BoundBraces x = Due.told("q9;m0 0 10 0;s0 0 1 9;s0 1 1 1;s0 2 1 5;");
        x.put(0);
        is("nine", x.letGo(0), 9);
        is("one", x.letGo(1), 1);
        fates(x, LET_GO, LET_GO, HOLDS);
        is("its notch", x.strap(0, 3), 9);
        is("its strain", x.strap(0, 4), 1);
        is("twangs", x.told(6), 0);
        is("those that hold", x.told(8), 4);
        x.letOut(2);
        is("what it has by then", x.letGo(2), 4);
        is("none holds", x.told(8), 0);
        is("straps", x.told(2), 3);
    }

    private static void sayingTwelve() {
        Due.says("SAID: a new STRAP for a MEMBER (12 at most)");
        BoundBraces x = Due.told("q9;m0 0 10 0;m0 1 10 0;");
        for (int s = 0; s < 12; s++) {
            is("say", x.say(s % 2, s % 8, s % 2 == 0, s % 9 + 1), s);
            is("straps", x.told(2), s + 1);
        }
        is("a 13th", x.say(0, 0, true, 1), FULL);
        is("straps", x.told(2), 12);
        is("those that hold", x.told(8), 4095);
        is("deeds", x.told(14), 12);
        is("the last one's member", x.strap(11, 0), 1);
        is("its matter", x.strap(11, 1), 3);
        is("its way", x.strap(11, 2), 0);
        is("its notch", x.strap(11, 3), 3);
    }

    private static void sayingWithThoseThatAreGone() {
        Due.says("12 at most with those that are GONE");
        BoundBraces x = Due.told("q1;m0 0 10 0;" + "s0 0 1 1;".repeat(11));
        x.put(0);
        is("all gave", x.told(8), 0);
        is("a twelfth", x.say(0, 0, true, 1), 11);
        x.letGo(11);
        is("a 13th, though none holds", x.say(0, 0, true, 1), FULL);
        is("undone there is room", x.undo(2), 1);
        is("a twelfth again", x.say(0, 5, false, 2), 11);
    }

    private static void sayingAtItsBounds() {
        Due.says("a MATTER 0 .. 7; NOTCH 1 .. 9");
        BoundBraces x = Due.told("q9;m0 0 10 0;m0 0 10 0;m0 0 10 0;m0 0 10 0;m0 0 10 0;m0 0 10 0;");
        int[][] said = {{0, 0, 0, 1}, {5, 7, 1, 9}, {0, 7, 1, 1}, {5, 0, 0, 9}};
        for (int s = 0; s < said.length; s++) {
            is("say", x.say(said[s][0], said[s][1], said[s][2] == 1, said[s][3]), s);
            for (int what = 0; what < 4; what++) {
                is("strap(" + s + ", " + what + ")", x.strap(s, what), said[s][what]);
            }
            is("no strain", x.strap(s, 4), 0);
            is("it holds", x.strap(s, 5), HOLDS);
        }
    }

    private static void theOldWeighOneAtLeast() {
        Due.says("MEMBERS of KIND 1 weigh 1 less (1 at least)");
        BoundBraces x = Due.told("q9;m1 0 1 0;m1 0 2 0;m1 0 3 0;s0 0 1 1;s1 0 1 1;s2 0 1 2;");
        is("session()", x.session(), 1);
        is("of 1", x.member(0, 2), 1);
        is("of 2", x.member(1, 2), 1);
        is("of 3", x.member(2, 2), 2);
        is("none hangs", x.told(9), 0);
        is("session()", x.session(), 2);
        is("of 1", x.member(0, 2), 1);
        is("of 2", x.member(1, 2), 1);
        is("of 3", x.member(2, 2), 1);
        is("1 of 1, 1 of 1, 2 of 1", x.told(9), 4);
        is("undo", x.undo(2), 0);
        is("of 3", x.member(2, 2), 3);
    }

    private static void onlyTheOldShrink() {
        Due.says("MEMBERS of KIND 1");
        BoundBraces x = Due.told("q9;m0 0 99 0;m1 0 99 0;m2 0 99 0;m3 0 99 0;");
        x.session();
        is("plain", x.member(0, 2), 99);
        is("old", x.member(1, 2), 98);
        is("on his toes", x.member(2, 2), 99);
        is("founder", x.member(3, 2), 99);
    }

    private static void theOldShrinkTo98Times() {
        Due.says("a WEIGHT of 99, 98 SESSIONS on, and one more");
        BoundBraces x = Due.told("q9;m1 0 99 0;");
        for (int n = 1; n <= 98; n++) {
            is("session()", x.session(), n);
        }
        is("weight", x.member(0, 2), 1);
        is("session()", x.session(), 99);
        is("weight", x.member(0, 2), 1);
    }

    private static void strainsAreHalfCut() {
        Due.says("STRAINS are half (cut)");
        BoundBraces x = Due.told("q9;m0 0 99 0;s0 0 1 9;s0 1 1 9;s0 2 1 9;s0 3 1 9;");
        x.put(1);
        for (int i = 0; i < 2; i++) {
            x.put(2);
        }
        for (int i = 0; i < 7; i++) {
            x.put(3);
        }
        strains(x, 0, 1, 2, 7);
        x.session();
        strains(x, 0, 0, 1, 3);
        x.session();
        strains(x, 0, 0, 0, 1);
        x.session();
        strains(x, 0, 0, 0, 0);
        is("undo", x.undo(3), 10);
        strains(x, 0, 1, 2, 7);
        is("puts stay", x.told(4), 10);
        is("notches stay", x.strap(3, 3), 9);
    }

    private static void strainsOfThoseGoneAreHalf() {
        Due.says("STRAINS are half, of the STRAPS that are GONE, too");
        BoundBraces x = Due.told("q1;m1 0 99 0;s0 0 1 3;s0 1 1 9;");
        x.put(0);
        x.put(0);
        x.put(1);
        x.put(1);
        x.put(1);
        x.letGo(1);
        strains(x, 4, 6);
        fates(x, GAVE, LET_GO);
        x.session();
        strains(x, 2, 3);
        fates(x, GAVE, LET_GO);
    }

    private static void countsBeginAtZero() {
        Due.says("PUT ones, PASSED ones, TWANGS are counted (0 at first); SESSIONS are one more");
        BoundBraces x = Due.told("q1;m0 0 9 1;s0 1 1 1;");
        for (int what = 4; what <= 7; what++) {
            is("told(" + what + ")", x.told(what), 0);
        }
        x.put(2);
        x.put(0);
        x.put(1);
        x.session();
        is("put ones", x.told(4), 3);
        is("passed ones", x.told(5), 2);
        is("twangs", x.told(6), 1);
        is("sessions", x.told(7), 1);
    }

    private static long behind(long seed, int draws) {
        for (int i = 0; i < draws; i++) {
            seed = (seed * 1103515245L + 12345L) % 2147483648L;
        }
        return seed;
    }

    private static void driftingAtItsBounds() {
        Due.says("n times BY DRAWS (1 .. 20)");
        BoundBraces x = Due.told("q9;m0 0 9 1;");
        x.drift(1);
        is("one", x.told(14), 1);
        is("two draws", x.seed(0), (int) behind(0, 2));
        x.drift(20);
        is("twenty more", x.told(14), 21);
        is("forty draws", x.seed(0), (int) behind(0, 40));
    }

    private static void driftingWithoutStraps() {
        Due.says("on 5, 6, if there are STRAPS");
        // 1103527590 / 65536 is 16838: by 8 left 6; 377401575 / 65536 is 5758
        BoundBraces x = Due.told("q9;m0 0 9 255;");
        String ahead = Due.picture(x);
        x.seed(1);
        is("twangs", x.drift(1), 0);
        is("no third draw", x.seed(0), (int) behind(1, 2));
        is("a deed all the same", x.undo(1), 0);
        Due.isSame("nothing is changed", Due.picture(x), ahead);
        BoundBraces y = Due.told("q9;m0 0 9 255;s0 0 0 5;");
        y.seed(1);
        y.drift(1);
        is("with one, a third", y.seed(0), (int) behind(1, 3));
        is("let out", y.strap(0, 3), 4);
        is("nothing put", y.told(4), 0);
    }

    private static void driftingOnStrapsThatAreGone() {
        Due.says("a DRAW of these is LET OUT, if it HOLDS");
        BoundBraces x = Due.told("q9;m0 0 9 255;s0 0 0 5;");
        x.letGo(0);
        x.seed(1);
        x.drift(1);
        is("drawn all the same", x.seed(0), (int) behind(1, 3));
        is("its notch", x.strap(0, 3), 5);
        fates(x, LET_GO);
        is("two deeds", x.told(14), 2);
        BoundBraces y = Due.told("q9;m0 0 9 255;s0 0 0 1;");
        y.seed(1);
        y.drift(1);
        is("the last notch", y.strap(0, 3), 0);
        fates(y, LET_GO);
    }

    private static void theSeedWrapsAround() {
        Due.says("it times 1103515245 and 12345, left over by 2 to the 31");
        for (int seed : new int[] {0, 1, 2147483647, 2147483646, 1073741824, 65535, 65536}) {
            BoundBraces x = Due.told("q9;");
            is("seed(" + seed + ")", x.seed(seed), 0);
            x.drift(3);
            is("behind six draws", x.seed(0), (int) behind(seed, 6));
        }
        // each of the eight by its own seed: the first draw is behind(seed, 1) / 65536, left over by 8
        for (int seed = 0; seed < 40; seed++) {
            int deed = (int) (behind(seed, 1) / 65536 % 8);
            int t = (int) (behind(seed, 2) / 65536 % 8);
            BoundBraces x = Due.told("q9;m1 0 9 " + (1 << t) + ";s0 " + t + " 1 9;");
            x.seed(seed);
            x.drift(1);
            is("seed " + seed + ": put ones", x.told(4), deed <= 4 ? 1 : 0);
            is("seed " + seed + ": passed ones", x.told(5), deed <= 4 ? 1 : 0);
            is("seed " + seed + ": notch", x.strap(0, 3), deed == 5 || deed == 6 ? 8 : 9);
            is("seed " + seed + ": sessions", x.told(7), deed == 7 ? 1 : 0);
            is("seed " + seed + ": weight", x.member(0, 2), deed == 7 ? 8 : 9);
        }
    }

    private static void undoingTwentyFour() {
        Due.says("24 at most are kept");
        BoundBraces x = Due.told("q9;m0 0 9 0;");
        for (int n = 1; n <= 23; n++) {
            x.put(0);
        }
        is("23", x.told(14), 23);
        is("24 are not so many", x.undo(24), NOT);
        x.put(0);
        is("24", x.told(14), 24);
        x.put(0);
        is("24 still", x.told(14), 24);
        is("all but the first", x.undo(24), 1);
        is("none is left", x.told(14), 0);
        is("no more", x.undo(1), NOT);
        is("put ones", x.told(4), 1);
    }

    private static void undoingDraws() {
        Due.says("each of the times BY DRAWS");
        BoundBraces x = Due.told("q9;m1 0 9 3;s0 1 0 9;s0 2 1 9;");
        BoundBraces twin = Due.told("q9;m1 0 9 3;s0 1 0 9;s0 2 1 9;");
        x.seed(3);
        twin.seed(3);
        x.drift(20);
        x.drift(7);
        twin.drift(13);
        is("24", x.told(14), 24);
        is("14 of 27", x.undo(14), twin.told(4));
        x.seed(0);
        twin.seed(0);
        is("ten are left", x.told(14), 10);
        for (int s = 0; s < 2; s++) {
            for (int what = 0; what <= 5; what++) {
                is("strap", x.strap(s, what), twin.strap(s, what));
            }
        }
        for (int what = 4; what <= 7; what++) {
            is("told(" + what + ")", x.told(what), twin.told(what));
        }
        is("weight", x.member(0, 2), twin.member(0, 2));
        is("ten more", x.undo(10), twin.undo(10));
        is("none of the first three", x.undo(1), NOT);
    }

    private static void undoingWhatWasSaid() {
        Due.says("all of section 2 is as ahead of them");
        BoundBraces x = Due.told("q1;m1 0 9 3;s0 1 0 2;s0 2 1 9;");
        String first = Due.picture(x);
        x.put(1);
        x.letOut(1);
        x.letGo(1);
        x.say(0, 4, true, 3);
        x.session();
        is("put ones", x.undo(4), 1);
        x.undo(1);
        Due.isSame("undone", Due.picture(x), first);
        x.session();
        x.say(0, 4, true, 3);
        String second = Due.picture(x);
        x.letGo(2);
        x.undo(1);
        Due.isSame("the latest alone", Due.picture(x), second);
    }

    private static void undoingSinceTheImage() {
        Due.says("since the text or IMAGE");
        BoundBraces x = Due.told("q9;m0 0 9 0;");
        is("since the text", x.undo(1), NOT);
        x.put(0);
        x.put(0);
        x.keep(0);
        is("kept", x.told(14), 0);
        is("since it was kept", x.undo(1), NOT);
        x.put(0);
        is("one", x.told(14), 1);
        is("two are not so many", x.undo(2), NOT);
        is("one", x.undo(1), 2);
        x.put(0);
        x.goBack(0);
        is("gone back", x.told(14), 0);
        is("since it was gone back to", x.undo(1), NOT);
        is("put ones", x.told(4), 2);
        x.put(0);
        Due.feed(x, "q8;");
        x.house();
        is("since the text", x.undo(1), NOT);
    }

    private static void undoingTwiceTheRing() {
        Due.says("The n latest (1 .. 24) are undone");
        BoundBraces x = Due.told("q9;m0 0 9 0;");
        for (int n = 0; n < 40; n++) {
            x.put(0);
        }
        is("ten", x.undo(10), 30);
        is("fourteen are left", x.told(14), 14);
        for (int n = 0; n < 12; n++) {
            x.put(0);
        }
        is("24 at most", x.told(14), 24);
        is("one", x.undo(1), 41);
        is("22", x.undo(22), 19);
        is("one", x.undo(1), 18);
        is("none", x.undo(1), NOT);
    }

    private static void theSeedStays() {
        Due.says("THE SEED stays");
        BoundBraces x = Due.told("q9;m0 0 9 0;");
        x.drift(2);
        x.undo(2);
        is("behind four draws", x.seed(9), (int) behind(0, 4));
        x.put(0);
        x.seed(11);
        x.undo(1);
        is("as it was set", x.seed(0), 11);
    }

    // These two go beyond 512 calls, where the answers are free: no other run comes to the bound, and the class keeps to it.

    private static void putIsFullAt90000() {
        Due.says("FULL: PUT ones are 90000 or more");
        BoundBraces x = Due.told("q9;m0 0 9 1;");
        for (int n = 1; n < 90000; n++) {
            x.put(1);
        }
        is("the 90000th", x.put(0), 1);
        is("put ones", x.told(4), 90000);
        is("the 90001st", x.put(0), FULL);
        is("outside goes first", x.put(8), -1000000002);
        is("drift(1)", x.drift(1), FULL);
        is("drift(21)", x.drift(21), -1000000002);
        is("put ones", x.told(4), 90000);
        is("passed ones", x.told(5), 1);
        is("the seed", x.seed(0), 0);
        is("24 deeds", x.told(14), 24);
        is("a session may end", x.session(), 1);
        is("undone there is room", x.undo(2), 89999);
        is("the 90000th again", x.put(0), 1);
        is("and no more", x.put(0), FULL);
    }

    private static void sessionIsFullAt90000() {
        Due.says("FULL: SESSIONS are 90000 or more");
        BoundBraces x = Due.told("q9;m1 0 9 1;");
        for (int n = 1; n < 90000; n++) {
            x.session();
        }
        is("the 90000th", x.session(), 90000);
        is("the 90001st", x.session(), FULL);
        is("drift(1)", x.drift(1), FULL);
        is("drift(0)", x.drift(0), -1000000002);
        is("sessions", x.told(7), 90000);
        is("put ones", x.told(4), 0);
        is("one may be put", x.put(0), 1);
        x.undo(2);
        is("undone there is room", x.told(7), 89999);
        x.drift(1);
        is("drawn again", x.told(14), 23);
        is("two draws", x.seed(0), (int) behind(0, 2));
    }
}
