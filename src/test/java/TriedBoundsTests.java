import java.util.ArrayList;
import java.util.List;

/** Section 3 and promises 1, 5, 6, 15 to 28: each sentence that names a boundary of what is asked has a test of its own. */
public final class TriedBoundsTests {
    private static final int NONE = -1, UNKNOWN = -1000000001, NOT = -1000000003, FULL = -1000000004;
    private static final int BILLION = 1000000000;

    public static void main(String[] args) {
        aNewObjectHasNoHouse();
        setsHaveBitKForK();
        refusalsAreFarBelow();
        goesNone();
        wouldPassByOne();
        marginAtItsMost();
        creaksOfNone();
        creaksOfAll();
        leastIsZeroIfItPasses();
        leastIsNoneByNone();
        leastOfLikeOnes();
        leastIsTheFewest();
        leastOfAllTwelve();
        leastOfThoseThatHold();
        leastByWhoHangs();
        leastOfTwelveVotes();
        clashesOfNone();
        clashesAtTheirMost();
        freedOfNone();
        freedOfLikeOnes();
        agendaOfNone();
        agendaOfOne();
        agendaOfFive();
        agendaInEachOrder();
        agendaOfLikeOnes();
        agendaWithoutPassing();
        agendaGoesOn();
        twangAtOnce();
        twangAt81();
        twangOfNone();
        twangFromNow();
        powerOfWhoGoesNotForIt();
        powerIsMoreThanHalf();
        powerOfOneAlone();
        powerOfSix();
        powerOfFive();
        powerOfTheFounder();
        holdsMostIfAlike();
        holdsMostByOne();
        nothingSeen();
        seenAreSix();
        couldBeNone();
        couldBeByStrapsAsNow();
        nextOfNone();
        nextOfLikeOnes();
        nextOfThreeParts();
        quietOfNoNight();
        quietAtItsBounds();
        quietIsCutEachTime();
        theBookHasTwenty();
        wrongIsTheFirst();
        wrongIsNone();
        tearIsHowMuchBothHad();
        theSeedAtItsBounds();
        imagesAreTwo();
        imagesKeepTheSeed();
        imagesKeepAllOfSectionTwo();
        imagesAreKeptAnew();
        imagesLeaveWhatIsSeen();
        imagesWithoutAHouse();
        Due.done();
    }

    private static void is(String call, int got, int want) {
        Due.is(call, got, want);
    }

    private static void aNewObjectHasNoHouse() {
        Due.says("No HOUSE");
        BoundBraces x = new BoundBraces();
        for (int what = 0; what <= 14; what++) {
            is("told(" + what + ")", x.told(what), 0);
        }
        for (int t = 0; t < 8; t++) {
            int[] want = {0, 1000, 0, NONE, NONE};
            for (int what = 0; what <= 4; what++) {
                is("matter(" + t + ", " + what + ")", x.matter(t, what), want[what]);
            }
        }
        is("fault()", x.fault(), NONE);
        is("member(0, 0)", x.member(0, 0), UNKNOWN);
        is("strap(0, 0)", x.strap(0, 0), UNKNOWN);
        is("goes(0, 0, 0)", x.goes(0, 0, 0), UNKNOWN);
        is("power(0, 0)", x.power(0, 0), UNKNOWN);
        is("write(0, 0, 0)", x.write(0, 0, 0), UNKNOWN);
        is("agenda(31, 0)", x.agenda(31, 0), 0);
        is("agenda(0, 1)", x.agenda(0, 1), 0);
        is("couldBe()", x.couldBe(), 0);
        is("next()", x.next(), NONE);
        is("judge()", x.judge(), NONE);
        is("tear()", x.tear(), 0);
        is("seed(0)", x.seed(0), 0);
    }

    private static void setsHaveBitKForK() {
        Due.says("A SET is a whole number, bit k for k");
        BoundBraces x = Due.told("q9;" + "m0 0 9 255;".repeat(6) + "s0 0 1 1;".repeat(11) + "s5 7 1 1;");
        is("all straps", x.told(8), 4095);
        is("those of the first", x.member(0, 4), 2047);
        is("that of the last", x.member(5, 4), 2048);
        is("all matters would pass", x.told(11), 255);
        is("all could be", x.couldBe(), 63);
        x.letGo(0);
        is("without the least", x.told(8), 4094);
        x.letGo(11);
        is("without the greatest", x.told(8), 2046);
    }

    private static void refusalsAreFarBelow() {
        Due.says("They are far below all that is counted: -1000000001 and on");
        is("NONE", BoundBraces.NONE, -1);
        is("UNKNOWN", BoundBraces.UNKNOWN, -1000000001);
        is("OUTSIDE", BoundBraces.OUTSIDE, -1000000002);
        is("NOT", BoundBraces.NOT, -1000000003);
        is("FULL", BoundBraces.FULL, -1000000004);
    }

    private static void goesNone() {
        Due.says("GOES (2 for not at all)");
        BoundBraces x = Due.told("q9;m0 0 1 3;s0 0 0 2;");
        is("by his strap", x.goes(0, 0, 0), 0);
        is("in his set, but he hangs", x.goes(0, 1, 0), 2);
        is("not in his set", x.goes(0, 7, 0), 2);
        is("pull", x.goes(0, 7, 1), 1000);
        x.letGo(0);
        is("let down", x.goes(0, 1, 0), 1);
        is("let down", x.goes(0, 7, 0), 0);
    }

    private static void wouldPassByOne() {
        Due.says("WOULD PASS: whether a MATTER does (1, 0), were it PUT now");
        BoundBraces x = Due.told("q9;m0 0 9 1;m0 0 9 129;m0 0 9 2;m0 0 1 255;s3 6 1 2;");
        is("2 to 1", x.matter(0, 0), 1);
        is("margin", x.matter(0, 1), 1001);
        is("1 to 2", x.matter(7, 0), 0);
        is("margin", x.matter(7, 1), 999);
        is("those that would", x.told(11), 1);
        is("put(0)", x.put(0), 1);
        BoundBraces y = Due.told("q9;m0 0 9 129;");
        is("1 to 0", y.matter(7, 0), 1);
        is("0 to 1", y.matter(6, 0), 0);
        is("those that would", y.told(11), 129);
        BoundBraces z = Due.told("q9;m0 0 9 1;m0 0 9 0;");
        is("1 to 1", z.matter(0, 0), 0);
        is("those that would", z.told(11), 0);
    }

    private static void marginAtItsMost() {
        Due.says("MARGIN, and 1000");
        String six = "q9;" + "m3 0 1 0;".repeat(6);
        String way1 = "s0 7 1 2;s1 7 1 2;s2 7 1 2;s3 7 1 2;s4 7 1 2;s5 7 1 2;";
        String way0 = "s0 7 0 2;s1 7 0 2;s2 7 0 2;s3 7 0 2;s4 7 0 2;s5 7 0 2;";
        is("six founders for", Due.told(six + way1).matter(7, 1), 1012);
        is("six founders against", Due.told(six + way0).matter(7, 1), 988);
        is("would pass", Due.told(six + way1).matter(7, 0), 1);
        is("would not", Due.told(six + way0).matter(7, 0), 0);
        is("none goes", Due.told(six + way1).matter(0, 1), 1000);
    }

    private static void creaksOfNone() {
        Due.says("CREAKS: STRAPS (a SET) that would have more STRAIN by it");
        BoundBraces x = Due.told("q9;m0 0 9 1;m2 0 9 0;s0 0 1 3;s1 0 1 3;s0 1 1 3;");
        is("as he would; on his toes, not hanging", x.matter(0, 2), 0);
        is("held on 1", x.matter(1, 2), 4);
        is("no strap on it", x.matter(2, 2), 0);
        x.letGo(2);
        is("gone", x.matter(1, 2), 0);
        x.say(1, 5, true, 7);
        is("on his toes, hanging: on 0", x.matter(0, 2), 2);
        is("and on 5", x.matter(5, 2), 8);
    }

    private static void creaksOfAll() {
        Due.says("CREAKS, those that would GIVE, too");
        BoundBraces x = Due.told("q1;m1 0 99 0;" + "s0 7 1 1;".repeat(12));
        is("all", x.matter(7, 2), 4095);
        is("none on 6", x.matter(6, 2), 0);
        is("twang at the first", x.matter(7, 4), 1);
        is("all hold still", x.told(8), 4095);
        is("no strain", x.strap(11, 4), 0);
    }

    private static void leastIsZeroIfItPasses() {
        Due.says("0: it does");
        is("by him who would", Due.told("q9;m0 0 9 1;s0 1 1 1;").matter(0, 3), 0);
        is("by his strap", Due.told("q9;m0 0 9 0;s0 0 1 1;").matter(0, 3), 0);
    }

    private static void leastIsNoneByNone() {
        Due.says("NONE: by none");
        is("no straps", Due.told("q9;m0 0 9 0;").matter(0, 3), NONE);
        is("nobody would", Due.told("q9;m0 0 9 0;s0 0 0 1;").matter(0, 3), NONE);
        is("even votes at best", Due.told("q9;m0 0 9 1;m0 0 9 0;s0 0 0 1;").matter(0, 3), NONE);
        is("no members", Due.told("q9;").matter(0, 3), NONE);
        BoundBraces x = Due.told("q9;m0 0 9 1;m0 0 9 0;s0 0 0 1;s1 0 1 1;");
        x.letGo(1);
        is("what was let go helps no more", x.matter(0, 3), NONE);
    }

    private static void leastOfLikeOnes() {
        Due.says("of like ones the least");
        BoundBraces x = Due.told("q9;m0 0 9 128;m0 0 9 128;m0 0 9 128;m0 0 9 128;"
            + "s3 7 0 1;s2 7 0 1;s1 7 0 1;s0 7 0 1;");
        is("three of four", x.matter(7, 3), 7);
        x.letGo(1);
        is("two of those left", x.matter(7, 3), 5);
        x.letGo(0);
        is("one of those left", x.matter(7, 3), 4);
        x.letGo(3);
        is("it does", x.matter(7, 3), 0);
    }

    private static void leastIsTheFewest() {
        Due.says("the fewest STRAPS");
        is("the one behind two", Due.told("q9;m0 0 9 1;m0 0 9 1;m0 0 9 1;s0 0 0 1;s0 0 0 1;s1 0 0 1;").matter(0, 3), 4);
        // 3 for, 1 and 3 against: without the 1 the pull is none, which is enough for one who would
        is("so that the pull is none", Due.told("q9;m0 0 9 1;s0 0 1 3;s0 0 0 1;s0 0 0 3;").matter(0, 3), 2);
        // 4 for, 1 and 4 against: for one who would not, the pull must be above 0
        is("so that the pull is above", Due.told("q9;m0 0 9 0;s0 0 1 4;s0 0 0 1;s0 0 0 4;").matter(0, 3), 4);
    }

    private static void leastOfAllTwelve() {
        Due.says("LEAST: all 12 STRAPS");
        BoundBraces x = Due.told("q9;m0 0 99 1;" + "s0 0 0 9;".repeat(12));
        is("hanging, held against", x.goes(0, 0, 0), 0);
        is("all", x.matter(0, 3), 4095);
        is("they hold still", x.told(8), 4095);
        x.letGo(0);
        is("all that hold", x.matter(0, 3), 4094);
    }

    private static void leastOfThoseThatHold() {
        Due.says("LEAST: STRAPS that HOLD");
        BoundBraces x = Due.told("q1;m0 0 9 1;m1 0 9 1;m0 0 9 0;s0 0 0 1;s1 0 0 3;");
        is("both", x.matter(0, 3), 3);
        x.put(0);
        is("one gave", x.strap(0, 5), 1);
        is("the other", x.matter(0, 3), 2);
    }

    private static void leastByWhoHangs() {
        Due.says("LEAST by whom HANGS");
        // 4 of 3: any one of the straps on other matters lets him down
        BoundBraces x = Due.told("q9;m0 0 3 1;s0 5 1 1;s0 6 0 1;s0 7 1 2;");
        is("would not", x.matter(0, 0), 0);
        is("the least", x.matter(0, 3), 1);
        x.say(0, 4, true, 1);
        is("5 of 3: one of two notches", x.matter(0, 3), 4);
        // a founder against has two votes while he hangs
        is("the founder let down", Due.told("q9;m3 0 3 0;m0 0 9 1;m0 0 9 1;s0 0 0 2;s0 5 1 2;").matter(0, 3), 1);
    }

    private static void leastOfTwelveVotes() {
        Due.says("LEAST, where 12 VOTES are for, or against");
        String six = "q9;" + "m3 0 1 1;".repeat(6);
        is("all for", Due.told(six + "s0 0 1 2;s1 0 1 2;s2 0 1 2;s3 0 1 2;s4 0 1 2;s5 0 1 2;").matter(0, 3), 0);
        // let down, each has one vote for it: four of them to the two's four are even, five pass
        BoundBraces x = Due.told(six + "s0 0 0 2;s1 0 0 2;s2 0 0 2;s3 0 0 2;s4 0 0 2;s5 0 0 2;");
        is("all against", x.matter(0, 3), 31);
        // a founder's two for it, and one let down to one against: 2 for, 1 against
        is("two to two", Due.told("q9;m3 0 1 0;m3 0 1 0;s0 0 1 2;s1 0 0 2;").matter(0, 3), 2);
    }

    private static void clashesOfNone() {
        Due.says("CLASHES: pairs of STRAPS that HOLD on one MATTER, one for, one against: how many");
        BoundBraces x = Due.told("q9;m0 0 9 0;m0 0 9 0;s0 0 1 1;s0 1 0 1;s0 0 1 2;s1 0 0 3;");
        is("none", x.member(0, 6), 0);
        is("of the other none", x.member(1, 6), 0);
        x.say(0, 0, false, 1);
        is("two", x.member(0, 6), 2);
        x.letGo(0);
        is("one", x.member(0, 6), 1);
        x.letGo(4);
        is("none", x.member(0, 6), 0);
    }

    private static void clashesAtTheirMost() {
        Due.says("CLASHES, 6 by 6");
        BoundBraces x = Due.told("q9;m0 0 9 0;" + "s0 7 0 1;".repeat(6) + "s0 7 1 9;".repeat(6));
        is("36", x.member(0, 6), 36);
        is("freed by the least six", x.member(0, 7), 63);
        x.letGo(11);
        is("30", x.member(0, 6), 30);
        is("freed by the fewer five", x.member(0, 7), 31 << 6);
        is("one and eleven", Due.told("q9;m0 0 9 0;" + "s0 7 0 1;".repeat(11) + "s0 7 1 9;").member(0, 7), 2048);
    }

    private static void freedOfNone() {
        Due.says("FREED, where there is no CLASH");
        BoundBraces x = Due.told("q9;m0 0 9 0;m0 0 9 0;s0 0 1 1;s0 1 0 1;");
        is("0", x.member(0, 7), 0);
        is("0 without straps", x.member(1, 7), 0);
    }

    private static void freedOfLikeOnes() {
        Due.says("FREED: of like ones the least");
        is("against is first", Due.told("q9;m0 0 9 0;s0 0 0 1;s0 0 1 9;").member(0, 7), 1);
        is("for is first", Due.told("q9;m0 0 9 0;s0 0 1 9;s0 0 0 1;").member(0, 7), 1);
        is("0 and 3 or 1 and 2", Due.told("q9;m0 0 9 0;s0 0 0 1;s0 0 1 1;s0 0 1 1;s0 0 0 1;").member(0, 7), 6);
        is("on two matters", Due.told("q9;m0 0 9 0;s0 7 0 1;s0 0 1 1;s0 7 1 1;s0 0 0 1;").member(0, 7), 3);
    }

    private static void agendaOfNone() {
        Due.says("0: none");
        BoundBraces x = Due.told("q9;m0 0 9 255;");
        is("how many", x.agenda(0, 0), 0);
        is("the figures", x.agenda(0, 1), 0);
        x.agenda(255 - 7, 1);
        is("how many, behind others", x.agenda(0, 0), 0);
        is("the figures, behind others", x.agenda(0, 1), 0);
    }

    private static void agendaOfOne() {
        Due.says("each 1 more than the MATTER");
        BoundBraces x = Due.told("q9;m0 0 9 129;");
        for (int t = 0; t < 8; t++) {
            is("figure of " + t, x.agenda(1 << t, 1), t + 1);
            is("passes", x.agenda(1 << t, 0), t == 0 || t == 7 ? 1 : 0);
        }
    }

    private static void agendaOfFive() {
        Due.says("AGENDA of a SET of MATTERS (5 at most)");
        BoundBraces x = Due.told("q9;m0 0 9 255;");
        is("0 to 4", x.agenda(31, 1), 12345);
        is("3 to 7", x.agenda(248, 1), 45678);
        is("five", x.agenda(248, 0), 5);
        // strap 3 on matter 7 gives as it is put, and then he hangs no more: 7 goes first
        BoundBraces y = Due.told("q1;m0 0 1 31;s0 7 1 1;s0 6 1 1;");
        is("7, then 0 to 3", y.agenda(128 + 15, 1), 81234);
        is("five", y.agenda(128 + 15, 0), 5);
        is("without it", y.agenda(31, 0), 0);
        BoundBraces z = Due.told("q9;m0 0 9 1;");
        is("none but these is put", z.agenda(248, 0), 0);
        is("none but these is told", z.agenda(248, 1), 45678);
    }

    /**
     * Four pass if the five are put in just this order, and in no other: all three hang. The first lets down the
     * second member, who alone would the second; the third, against which the first member is held, lets him down,
     * and he turns the fourth, but would not the second; the fourth lets down the third, who turns the fifth.
     */
    private static String fourPassBy(int[] order) {
        int first = order[0], second = order[1], third = order[2], fourth = order[3], fifth = order[4];
        return "q1;m1 0 2 " + (1 << third | 1 << fourth)
            + ";m0 0 4 " + (1 << first | 1 << second | 1 << fourth | 1 << fifth)
            + ";m1 0 4 " + (1 << third | 1 << fourth | 1 << fifth)
            + ";s0 " + third + " 0 2;s1 " + first + " 0 2;s0 " + fifth + " 0 2;s2 " + fourth + " 0 1;s1 " + first
            + " 1 3;s2 " + first + " 1 4;";
    }

    private static void agendaInEachOrder() {
        Due.says("in which order .. most PASS");
        for (int rank = 0; rank < 120; rank++) {
            for (int least = 0; least <= 3; least += 3) {
                int[] order = orderOf(rank, least);
                BoundBraces x = Due.told(fourPassBy(order));
                int figures = 0;
                for (int t : order) {
                    figures = figures * 10 + t + 1;
                }
                is("how many of " + figures, x.agenda(31 << least, 0), 4);
                is("the figures", x.agenda(31 << least, 1), figures);
            }
        }
    }

    private static int[] orderOf(int rank, int least) {
        List<Integer> left = new ArrayList<>();
        for (int t = 0; t < 5; t++) {
            left.add(least + t);
        }
        int[] order = new int[5];
        for (int i = 0; i < 5; i++) {
            order[i] = left.remove(rank % (5 - i));
            rank /= 5 - i;
        }
        return order;
    }

    private static void agendaOfLikeOnes() {
        Due.says("of like ones the least number");
        BoundBraces x = Due.told("q9;m0 0 9 2;");
        is("none strains, any order", x.agenda(7, 1), 123);
        is("one passes", x.agenda(7, 0), 1);
        // 1 or 2 lets him down: then 0 passes; 0 itself must come behind one of them
        BoundBraces y = Due.told("q1;m0 0 2 1;s0 1 1 1;s0 2 1 1;s0 3 1 1;");
        is("1, 0, 2", y.agenda(7, 1), 213);
        is("three", y.agenda(7, 0), 3);
    }

    private static void agendaWithoutPassing() {
        Due.says("most PASS: how many, where none does");
        BoundBraces x = Due.told("q9;m0 0 9 0;");
        is("how many", x.agenda(224, 0), 0);
        is("the least figures", x.agenda(224, 1), 678);
    }

    private static void agendaGoesOn() {
        Due.says("all else going on (STRAIN, TWANGS); nothing changes by it");
        // three puts strain him to hold matter 0, but each matter is put once: nothing gives
        BoundBraces x = Due.told("q3;m0 0 1 2;s0 0 1 1;s0 2 1 1;");
        is("0 and 2 pass, 1 does not", x.agenda(7, 0), 2);
        x.put(0);
        x.put(0);
        String ahead = Due.picture(x);
        is("from now, 0 gives and 1 passes", x.agenda(7, 0), 3);
        is("0 ahead of 1", x.agenda(7, 1), 123);
        is("1 and 2 alone", x.agenda(6, 0), 1);
        Due.isSame("all", Due.picture(x), ahead);
    }

    private static void twangAtOnce() {
        Due.says("at which PUT (1 ..) first a STRAP GIVES");
        is("strain 1 of 1", Due.told("q1;m0 0 9 0;s0 0 1 1;").matter(0, 4), 1);
        is("strain 2 of 1", Due.told("q1;m1 0 9 0;s0 0 1 1;").matter(0, 4), 1);
        is("strain 2 of 3", Due.told("q3;m1 0 9 0;s0 0 1 1;").matter(0, 4), 2);
        is("the first of two", Due.told("q1;m0 0 99 0;s0 0 1 9;s0 0 1 4;").matter(0, 4), 4);
    }

    private static void twangAt81() {
        Due.says("PUT (1 .. 99), one behind the other on it alone");
        is("9 by 9, by ones", Due.told("q9;m0 0 9 0;s0 0 1 9;").matter(0, 4), 81);
        is("9 by 9, by twos", Due.told("q9;m1 0 9 0;s0 0 1 9;").matter(0, 4), 41);
        is("9 by 8, by ones", Due.told("q9;m0 0 9 0;s0 0 1 8;").matter(0, 4), 72);
    }

    private static void twangOfNone() {
        Due.says("TWANG of a MATTER; NONE");
        is("no strap", Due.told("q1;m0 0 9 0;").matter(0, 4), NONE);
        is("on another", Due.told("q1;m0 0 9 0;s0 1 1 1;").matter(0, 4), NONE);
        is("as he would", Due.told("q1;m0 0 9 1;s0 0 1 1;").matter(0, 4), NONE);
        is("on his toes", Due.told("q1;m2 0 9 0;s0 0 1 1;").matter(0, 4), NONE);
        is("on his toes, hanging", Due.told("q1;m2 0 1 0;s0 0 1 2;").matter(0, 4), 2);
        BoundBraces x = Due.told("q1;m0 0 9 0;s0 0 1 1;");
        x.put(0);
        is("it gave ahead", x.matter(0, 4), NONE);
    }

    private static void twangFromNow() {
        Due.says("TWANG, from now");
        BoundBraces x = Due.told("q9;m0 0 9 0;s0 0 1 2;");
        is("18", x.matter(0, 4), 18);
        for (int i = 0; i < 8; i++) {
            x.put(0);
        }
        is("ten more", x.matter(0, 4), 10);
        x.letOut(0);
        is("one more", x.matter(0, 4), 1);
        x.session();
        is("half the strain: five more", x.matter(0, 4), 5);
        is("nothing is put by it", x.told(4), 8);
        is("nor strained", x.strap(0, 4), 4);
    }

    private static void powerOfWhoGoesNotForIt() {
        Due.says("0, if he does not go FOR it");
        BoundBraces x = Due.told("q9;m0 0 9 1;m0 0 9 0;m0 0 1 1;s2 1 1 2;");
        is("against", x.power(1, 0), 0);
        is("not at all", x.power(2, 0), 0);
        is("for, but half is not more than half", x.power(0, 0), 0);
        is("on 1: for by his strap, of three that go", x.power(2, 1), 0);
    }

    private static void powerIsMoreThanHalf() {
        Due.says("more than half of all VOTES (of all who go)");
        BoundBraces x = Due.told("q9;m0 0 9 1;m0 0 9 1;m0 0 9 0;");
        is("two of three: the second of each order", x.power(0, 0), 1);
        is("and the other", x.power(1, 0), 1);
        BoundBraces y = Due.told("q9;m0 0 9 1;m0 0 9 1;m0 0 9 0;m0 0 9 0;");
        is("two of four", y.power(0, 0), 0);
        BoundBraces z = Due.told("q9;m0 0 9 1;m0 0 9 1;m0 0 9 1;m0 0 9 0;m0 0 9 0;");
        is("three of five: the third, 2 orders each", z.power(0, 0), 2);
        BoundBraces w = Due.told("q9;m0 0 9 1;m0 0 9 1;m0 0 1 1;s2 5 1 2;");
        is("who does not go counts not: the second of two", w.power(0, 0), 1);
        BoundBraces v = Due.told("q9;m0 0 9 1;m0 0 9 1;m0 0 9 1;m0 0 9 1;m0 0 9 0;");
        is("four of five: the third, 3! each", v.power(3, 0), 6);
    }

    private static void powerOfOneAlone() {
        Due.says("of all orders of MEMBERS that go FOR it now");
        is("one alone", Due.told("q9;m0 0 9 128;").power(0, 7), 1);
        is("one of one that goes", Due.told("q9;m0 0 9 1;m0 0 1 1;s1 5 1 2;").power(0, 0), 1);
    }

    private static void powerOfSix() {
        Due.says("POWER of 6 MEMBERS: 720 orders");
        BoundBraces x = Due.told("q9;" + "m0 0 9 1;".repeat(6));
        for (int m = 0; m < 6; m++) {
            is("of " + m, x.power(m, 0), 120);
        }
        // one founder with two of seven votes: he turns it as the third or the fourth; the others share 480
        BoundBraces y = Due.told("q9;m3 0 1 0;" + "m0 0 9 1;".repeat(5) + "s0 0 1 2;");
        is("founder", y.power(0, 0), 240);
        for (int m = 1; m < 6; m++) {
            is("of " + m, y.power(m, 0), 96);
        }
    }

    private static void powerOfFive() {
        Due.says("POWER of 5 that go FOR it, with 6 of 8 VOTES");
        // four or three of the others ahead of the founder: 4! and 4 times 3!; the others share 120 less 48
        BoundBraces x = Due.told("q9;m3 0 1 0;m3 0 1 1;" + "m0 0 9 1;".repeat(4) + "s0 0 1 2;s1 0 0 2;");
        is("founder", x.power(0, 0), 48);
        is("the founder against it", x.power(1, 0), 0);
        for (int m = 2; m < 6; m++) {
            is("of " + m, x.power(m, 0), 18);
        }
    }

    private static void powerOfTheFounder() {
        Due.says("it is by his VOTES");
        BoundBraces x = Due.told("q9;m3 0 1 0;m0 0 9 1;s0 0 1 2;");
        is("two of three", x.power(0, 0), 2);
        is("one of three", x.power(1, 0), 0);
        x.letOut(0);
        is("let down: one of two", x.power(0, 0), 1);
        is("and the other", x.power(1, 0), 1);
    }

    private static void holdsMostIfAlike() {
        Due.says("0, if alike");
        is("no straps", Due.told("q9;m0 1 9 0;").told(10), 0);
        is("3 and 3", Due.told("q9;m0 0 9 0;m0 1 9 0;s0 0 1 3;s1 0 1 1;s1 7 0 2;").told(10), 0);
        is("no house", new BoundBraces().told(10), 0);
    }

    private static void holdsMostByOne() {
        Due.says("the one whose MEMBERS' STRAPS that HOLD have more NOTCHES together");
        BoundBraces x = Due.told("q9;m0 0 9 0;m0 1 9 0;m0 1 9 0;s0 0 1 3;s1 0 1 2;s2 7 0 2;");
        is("3 and 4", x.told(10), 1);
        x.letOut(2);
        is("3 and 3", x.told(10), 0);
        x.letOut(0);
        is("2 and 3", x.told(10), 1);
        x.letGo(1);
        is("2 and 1", x.told(10), 0);
        x.letGo(0);
        is("0 and 1", x.told(10), 1);
        x.letGo(2);
        is("none", x.told(10), 0);
    }

    private static void nothingSeen() {
        Due.says("COULD BE: all, with nothing SEEN");
        is("six", Due.told("q9;" + "m0 0 9 0;".repeat(6)).couldBe(), 63);
        is("one", Due.told("q9;m0 0 9 0;").couldBe(), 1);
        is("none", Due.told("q9;").couldBe(), 0);
    }

    private static void seenAreSix() {
        Due.says("SEEN (6 at most)");
        BoundBraces x = Due.told("q9;m0 0 9 63;m0 0 9 31;m0 0 9 0;");
        for (int n = 1; n <= 6; n++) {
            is("see", x.see(n - 1, 1), n);
            is("told(12)", x.told(12), n);
            is("couldBe()", x.couldBe(), n == 6 ? 1 : 3);
        }
        is("a seventh", x.see(6, 1), FULL);
        is("it is not seen", x.couldBe(), 1);
        is("told(12)", x.told(12), 6);
        is("tear()", x.tear(), 6);
        is("a first", x.see(7, 0), 1);
        is("couldBe()", x.couldBe(), 7);
    }

    private static void couldBeNone() {
        Due.says("MEMBERS (a SET) by whom all that is SEEN is so; 0");
        BoundBraces x = Due.told("q9;m0 0 9 1;m0 0 1 1;s1 7 1 2;");
        x.see(0, 2);
        is("not at all", x.couldBe(), 2);
        x.see(7, 1);
        is("for it by his strap", x.couldBe(), 2);
        x.see(0, 1);
        is("none", x.couldBe(), 0);
        is("next()", x.next(), NONE);
        is("three are seen", x.told(12), 3);
    }

    private static void couldBeByStrapsAsNow() {
        Due.says("by STRAPS as now");
        BoundBraces x = Due.told("q9;m0 0 9 0;m0 0 9 0;s0 3 1 2;");
        x.see(3, 1);
        is("by his strap", x.couldBe(), 1);
        x.letGo(0);
        is("let go", x.couldBe(), 0);
        x.say(1, 3, true, 1);
        is("by the other's", x.couldBe(), 2);
        x.undo(2);
        is("undone", x.couldBe(), 1);
    }

    private static void nextOfNone() {
        Due.says("NONE: none parts them");
        is("no members", Due.told("q9;").next(), NONE);
        is("one", Due.told("q9;m0 0 9 170;").next(), NONE);
        is("alike", Due.told("q9;m0 0 9 170;m1 1 99 170;").next(), NONE);
        is("by the last", Due.told("q9;m0 0 9 170;m1 1 99 42;").next(), 7);
        BoundBraces x = Due.told("q9;m0 0 9 1;m1 1 99 2;");
        is("by the first", x.next(), 0);
        x.see(1, 1);
        is("one is left", x.next(), NONE);
    }

    private static void nextOfLikeOnes() {
        Due.says("the greatest part that is alike is least; of like ones the least");
        is("3 to 1 on 0, 2 to 2 on 4 and 5", Due.told("q9;m0 0 9 49;m0 0 9 48;m0 0 9 0;m0 0 9 0;").next(), 4);
        is("1 to 3 on each", Due.told("q9;m0 0 9 8;m0 0 9 64;m0 0 9 0;m0 0 9 0;").next(), 3);
        is("4 to 2 on 0, 3 to 3 on 2", Due.told("q9;m0 0 9 5;m0 0 9 5;m0 0 9 5;m0 0 9 1;m0 0 9 0;m0 0 9 0;").next(), 2);
    }

    private static void nextOfThreeParts() {
        Due.says("told apart by 1, 0, or not at all");
        // on 5: one for, one against, one not at all; on 0: two and one
        BoundBraces x = Due.told("q9;m0 0 9 1;m0 0 9 33;m0 0 1 0;s2 7 1 2;");
        is("on 0 two and one", x.goes(2, 0, 0), 2);
        is("in three", x.next(), 5);
    }

    private static void quietOfNoNight() {
        Due.says("odds of n nights (0 ..)");
        BoundBraces x = new BoundBraces();
        is("quiet(0, 0)", x.quiet(0, 0), BILLION);
        is("quiet(0, 50)", x.quiet(0, 50), BILLION);
        is("quiet(0, 100)", x.quiet(0, 100), BILLION);
    }

    private static void quietAtItsBounds() {
        Due.says("(0 .. 60) .. (0 .. 100)");
        BoundBraces x = new BoundBraces();
        is("quiet(1, 0)", x.quiet(1, 0), 0);
        is("quiet(60, 0)", x.quiet(60, 0), 0);
        is("quiet(1, 100)", x.quiet(1, 100), BILLION);
        is("quiet(60, 100)", x.quiet(60, 100), BILLION);
        is("quiet(1, 99)", x.quiet(1, 99), 990000000);
        is("quiet(1, 1)", x.quiet(1, 1), 10000000);
        is("quiet(4, 1)", x.quiet(4, 1), 10);
        is("quiet(5, 1)", x.quiet(5, 1), 0);
    }

    private static void quietIsCutEachTime() {
        Due.says("a BILLION times q / 100 each (cut)");
        BoundBraces x = new BoundBraces();
        for (int q = 0; q <= 100; q++) {
            long odds = BILLION;
            for (int n = 0; n <= 60; n += 1) {
                if (n % 20 == 0 || n == 7) {
                    is("quiet(" + n + ", " + q + ")", x.quiet(n, q), (int) odds);
                }
                odds = odds * q / 100;
            }
        }
    }

    private static void theBookHasTwenty() {
        Due.says("THE BOOK (20 at most)");
        BoundBraces x = Due.told("q9;m0 0 9 1;m0 0 9 0;");
        for (int n = 1; n <= 20; n++) {
            is("write", x.write(n % 2, 0, 1 - n % 2), n);
            is("told(13)", x.told(13), n);
        }
        is("none is wrong", x.judge(), NONE);
        is("a 21st", x.write(0, 0, 0), FULL);
        is("told(13)", x.told(13), 20);
        is("it is not in", x.judge(), NONE);
        is("tear()", x.tear(), 20);
        is("a first", x.write(0, 0, 0), 1);
        is("and wrong", x.judge(), 0);
    }

    private static void wrongIsTheFirst() {
        Due.says("WRONG: the first that is otherwise now");
        BoundBraces x = Due.told("q9;m0 0 9 1;m0 0 1 255;s1 7 0 2;");
        for (int n = 0; n < 19; n++) {
            x.write(1, n % 7, 2);
        }
        is("not at all, all of them", x.judge(), NONE);
        x.write(1, 7, 1);
        is("the last", x.judge(), 19);
        x.letGo(0);
        is("let down, the first", x.judge(), 0);
        x.undo(1);
        is("undone", x.judge(), 19);
        BoundBraces y = Due.told("q9;m0 0 9 1;");
        y.write(0, 0, 1);
        y.write(0, 0, 0);
        y.write(0, 0, 2);
        is("the second of three", y.judge(), 1);
    }

    private static void wrongIsNone() {
        Due.says("WRONG; NONE");
        BoundBraces x = Due.told("q9;m0 0 9 1;");
        is("an empty book", x.judge(), NONE);
        x.write(0, 0, 1);
        x.write(0, 7, 0);
        is("all right", x.judge(), NONE);
    }

    private static void tearIsHowMuchBothHad() {
        Due.says("Nothing SEEN, no BOOK: how much both had");
        BoundBraces x = Due.told("q9;m0 0 9 1;");
        is("nothing", x.tear(), 0);
        x.see(0, 0);
        is("seen alone", x.tear(), 1);
        x.write(0, 0, 0);
        x.write(0, 0, 0);
        is("the book alone", x.tear(), 2);
        for (int i = 0; i < 6; i++) {
            x.see(0, 0);
        }
        for (int i = 0; i < 20; i++) {
            x.write(0, 0, 0);
        }
        x.put(0);
        is("both, full", x.tear(), 26);
        is("nothing is seen", x.told(12), 0);
        is("no book", x.told(13), 0);
        is("all could be", x.couldBe(), 1);
        is("none is wrong", x.judge(), NONE);
        is("again", x.tear(), 0);
        is("it is no deed", x.told(14), 1);
    }

    private static void theSeedAtItsBounds() {
        Due.says("THE SEED becomes v (0 .. 2147483647): what it was");
        BoundBraces x = new BoundBraces();
        is("0 at first", x.seed(2147483647), 0);
        is("what it was", x.seed(0), 2147483647);
        is("what it was", x.seed(1), 0);
        is("what it was", x.seed(1), 1);
    }

    private static void imagesAreTwo() {
        Due.says("IMAGES 0, 1");
        BoundBraces x = Due.told("q9;m0 0 9 1;");
        is("goBack(0)", x.goBack(0), NOT);
        is("goBack(1)", x.goBack(1), NOT);
        x.put(0);
        is("keep(1)", x.keep(1), 1);
        is("goBack(0)", x.goBack(0), NOT);
        x.put(0);
        is("keep(0)", x.keep(0), 1);
        x.put(0);
        is("goBack(1)", x.goBack(1), 1);
        is("put ones", x.told(4), 1);
        is("goBack(0)", x.goBack(0), 1);
        is("put ones", x.told(4), 2);
        x.put(0);
        is("again", x.goBack(0), 1);
        is("put ones", x.told(4), 2);
    }

    private static void imagesKeepTheSeed() {
        Due.says("IMAGES keep .. THE SEED");
        BoundBraces x = Due.told("q9;m0 0 9 1;");
        x.seed(2147483647);
        x.keep(0);
        x.drift(3);
        x.goBack(0);
        is("the seed", x.seed(5), 2147483647);
        x.goBack(0);
        is("the seed again", x.seed(0), 2147483647);
    }

    private static void imagesKeepAllOfSectionTwo() {
        Due.says("IMAGES 0, 1 keep all of section 2");
        BoundBraces x = Due.told("q1;m1 0 9 3;s0 1 0 2;s0 2 1 9;s0 3 1 1;");
        x.put(1);
        x.put(2);
        x.letOut(2);
        x.session();
        x.keep(0);
        String kept = Due.picture(x);
        for (int s = 3; s < 12; s++) {
            x.say(0, s % 8, s % 2 == 0, 3);
        }
        x.letGo(1);
        x.session();
        x.put(4);
        is("straps", x.told(2), 12);
        x.goBack(0);
        Due.isSame("gone back to", Due.picture(x), kept);
        is("there is room again", x.say(0, 0, true, 1), 3);
        x.goBack(0);
        Due.isSame("it was not changed", Due.picture(x), kept);
    }

    private static void imagesAreKeptAnew() {
        Due.says("IMAGE i becomes what is so");
        BoundBraces x = Due.told("q9;m0 0 9 1;");
        x.keep(0);
        x.put(0);
        x.keep(0);
        x.put(0);
        x.goBack(0);
        is("the latest", x.told(4), 1);
        x.goBack(0);
        x.keep(1);
        x.put(0);
        x.goBack(1);
        is("the one kept from the other", x.told(4), 1);
    }

    private static void imagesLeaveWhatIsSeen() {
        Due.says("all of section 2: neither what is SEEN nor THE BOOK nor THE TEXT");
        BoundBraces x = Due.told("q9;m0 0 9 1;");
        x.see(0, 1);
        x.keep(0);
        x.see(0, 0);
        x.write(0, 0, 0);
        x.feed('q');
        x.goBack(0);
        is("seen", x.told(12), 2);
        is("entries", x.told(13), 1);
        is("letters", x.told(3), 1);
        is("could be", x.couldBe(), 0);
        x.tear();
        x.goBack(0);
        is("seen", x.told(12), 0);
    }

    private static void imagesWithoutAHouse() {
        Due.says("keep(), goBack() without a HOUSE");
        BoundBraces x = new BoundBraces();
        x.seed(3);
        is("keep(0)", x.keep(0), 1);
        x.seed(4);
        is("goBack(0)", x.goBack(0), 1);
        is("the seed", x.seed(0), 3);
        is("no house", x.put(0), NOT);
        Due.feed(x, "q9;m0 0 9 1;");
        x.house();
        is("gone with the text", x.goBack(0), NOT);
    }
}
