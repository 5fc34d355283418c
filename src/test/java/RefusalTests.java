import java.util.function.Supplier;
import java.util.function.ToIntFunction;

/**
 * 'REFUSALS, of several the first in this order' and 'What is refused changes nothing': each refused call is made
 * on one of two objects that are alike, and then both must answer alike, also what is undone or gone back to.
 */
public final class RefusalTests {
    private static final int UNKNOWN = -1000000001, OUTSIDE = -1000000002, NOT = -1000000003, FULL = -1000000004;
    private static final int MIN = Integer.MIN_VALUE, MAX = Integer.MAX_VALUE;

    public static void main(String[] args) {
        theObjectsAreAsSaid();
        feeding();
        telling();
        members();
        straps();
        putting();
        lettingOut();
        lettingGo();
        saying();
        sessions();
        drifting();
        undoing();
        going();
        matters();
        agendas();
        powers();
        quietNights();
        seeing();
        writing();
        seeds();
        images();
        askingChangesNothing();
        Due.done();
    }

    /** Three members and four straps, of which 0 holds, 1 gave, 2 was let go, 3 was let out to none; four deeds behind image 0. */
    private static BoundBraces rich() {
        BoundBraces x = Due.told("q1;m0 0 20 1;m1 1 9 2;m3 1 2 5;s2 0 0 3;s1 0 1 2;s0 1 1 4;s0 2 1 1;");
        x.seed(40);
        x.keep(0);
        x.put(0);
        x.letGo(2);
        x.letOut(3);
        x.session();
        x.see(0, 0);
        x.write(1, 1, 1);
        x.write(2, 0, 1);
        x.feed('q');
        x.feed('4');
        return x;
    }

    private static BoundBraces withoutHouse() {
        BoundBraces x = new BoundBraces();
        x.seed(40);
        x.see(3, 2);
        x.feed('q');
        return x;
    }

    private static BoundBraces fullOfLetters() {
        BoundBraces x = Due.told("q1;m0 0 9 1;s0 0 0 3;");
        x.put(0);
        for (int i = 0; i < 240; i++) {
            x.feed(' ');
        }
        return x;
    }

    private static BoundBraces fullOfStraps() {
        BoundBraces x = Due.told("q1;m0 0 9 1;m1 0 9 1;s0 0 0 3;s1 0 1 2;");
        for (int s = 2; s < 12; s++) {
            x.say(s % 2, s % 8, s % 3 == 0, s % 9 + 1);
        }
        x.letGo(5);
        return x;
    }

    private static BoundBraces fullOfPapers() {
        BoundBraces x = Due.told("q1;m0 0 9 1;m1 0 9 1;s0 0 0 3;s1 0 1 2;");
        for (int i = 0; i < 6; i++) {
            x.see(1, 0);
        }
        for (int i = 0; i < 20; i++) {
            x.write(0, 0, 0);
        }
        x.put(0);
        return x;
    }

    private static void theObjectsAreAsSaid() {
        BoundBraces x = rich();
        for (int s = 0; s < 4; s++) {
            Due.is("rich: strap(" + s + ", 5)", x.strap(s, 5), new int[] {0, 1, 2, 2}[s]);
        }
        Due.is("rich: deeds", x.told(14), 4);
        Due.is("full of letters", fullOfLetters().told(3), 240);
        Due.is("full of straps", fullOfStraps().told(2), 12);
        Due.is("full of what is seen", fullOfPapers().told(12), 6);
        Due.is("full of entries", fullOfPapers().told(13), 20);
    }

    private static void refuses(Supplier<BoundBraces> made, String call, ToIntFunction<BoundBraces> called, int refusal) {
        BoundBraces x = made.get();
        Due.is(call, called.applyAsInt(x), refusal);
        isLike(call, x, made.get());
    }

    /** What is asked now, behind all that can be undone, and behind the image. */
    private static void isLike(String call, BoundBraces x, BoundBraces twin) {
        Due.is("fault() behind " + call, x.fault(), twin.fault());
        Due.isSame("all behind " + call, Due.picture(x), Due.picture(twin));
        int deeds = twin.told(14);
        if (deeds > 0) {
            Due.is("undo(" + deeds + ") behind " + call, x.undo(deeds), twin.undo(deeds));
            Due.is("put ones", x.told(4), twin.told(4));
            Due.is("straps that hold", x.told(8), twin.told(8));
        }
        Due.is("goBack(1) behind " + call, x.goBack(1), NOT);
        Due.is("goBack(0) behind " + call, x.goBack(0), twin.goBack(0));
        if (twin.told(0) > 0) {
            Due.is("drift(6) behind " + call, x.drift(6), twin.drift(6));
            Due.is("undo(3) behind " + call, x.undo(3), twin.undo(3));
        }
        Due.is("letters", x.told(3), twin.told(3));
        Due.is("house() behind " + call, x.house(), twin.house());
        Due.is("its fault", x.fault(), twin.fault());
    }

    private static void feeding() {
        Due.says("feed: OUTSIDE, FULL (240)");
        for (int letter : new int[] {-1, 256, MIN, MAX}) {
            refuses(RefusalTests::rich, "feed(" + letter + ")", x -> x.feed(letter), OUTSIDE);
            refuses(RefusalTests::withoutHouse, "feed(" + letter + ")", x -> x.feed(letter), OUTSIDE);
            refuses(RefusalTests::fullOfLetters, "full: feed(" + letter + ")", x -> x.feed(letter), OUTSIDE);
        }
        for (int letter : new int[] {0, 32, 'q', 255}) {
            refuses(RefusalTests::fullOfLetters, "full: feed(" + letter + ")", x -> x.feed(letter), FULL);
        }
    }

    private static void telling() {
        Due.says("told: OUTSIDE");
        for (int what : new int[] {-1, 15, MIN, MAX}) {
            refuses(RefusalTests::rich, "told(" + what + ")", x -> x.told(what), OUTSIDE);
            refuses(RefusalTests::withoutHouse, "told(" + what + ")", x -> x.told(what), OUTSIDE);
        }
    }

    private static void members() {
        Due.says("member: UNKNOWN, OUTSIDE");
        for (int m : new int[] {-1, 3, 6, MIN, MAX}) {
            for (int what : new int[] {0, 7, -1, 8, MIN, MAX}) {
                refuses(RefusalTests::rich, "member(" + m + ", " + what + ")", x -> x.member(m, what), UNKNOWN);
            }
        }
        for (int what : new int[] {-1, 8, MIN, MAX}) {
            refuses(RefusalTests::rich, "member(2, " + what + ")", x -> x.member(2, what), OUTSIDE);
            refuses(RefusalTests::withoutHouse, "member(0, " + what + ")", x -> x.member(0, what), UNKNOWN);
        }
    }

    private static void straps() {
        Due.says("strap: UNKNOWN, OUTSIDE");
        for (int s : new int[] {-1, 4, 12, MIN, MAX}) {
            for (int what : new int[] {0, 5, -1, 6, MIN, MAX}) {
                refuses(RefusalTests::rich, "strap(" + s + ", " + what + ")", x -> x.strap(s, what), UNKNOWN);
            }
        }
        for (int what : new int[] {-1, 6, MIN, MAX}) {
            refuses(RefusalTests::rich, "strap(3, " + what + ")", x -> x.strap(3, what), OUTSIDE);
            refuses(RefusalTests::withoutHouse, "strap(0, " + what + ")", x -> x.strap(0, what), UNKNOWN);
            refuses(RefusalTests::fullOfStraps, "strap(12, " + what + ")", x -> x.strap(12, what), UNKNOWN);
        }
    }

    private static void putting() {
        Due.says("put: OUTSIDE, NOT: no HOUSE");
        for (int t : new int[] {-1, 8, MIN, MAX}) {
            refuses(RefusalTests::rich, "put(" + t + ")", x -> x.put(t), OUTSIDE);
            refuses(RefusalTests::withoutHouse, "no house: put(" + t + ")", x -> x.put(t), OUTSIDE);
        }
        refuses(RefusalTests::withoutHouse, "no house: put(0)", x -> x.put(0), NOT);
        refuses(RefusalTests::withoutHouse, "no house: put(7)", x -> x.put(7), NOT);
    }

    private static void lettingOut() {
        Due.says("letOut: UNKNOWN, NOT: it is GONE");
        for (int s : new int[] {-1, 4, 12, MIN, MAX}) {
            refuses(RefusalTests::rich, "letOut(" + s + ")", x -> x.letOut(s), UNKNOWN);
            refuses(RefusalTests::withoutHouse, "no house: letOut(" + s + ")", x -> x.letOut(s), UNKNOWN);
        }
        refuses(RefusalTests::withoutHouse, "no house: letOut(0)", x -> x.letOut(0), UNKNOWN);
        refuses(RefusalTests::rich, "gave: letOut(1)", x -> x.letOut(1), NOT);
        refuses(RefusalTests::rich, "let go: letOut(2)", x -> x.letOut(2), NOT);
        refuses(RefusalTests::rich, "let out to none: letOut(3)", x -> x.letOut(3), NOT);
        refuses(RefusalTests::fullOfStraps, "letOut(12)", x -> x.letOut(12), UNKNOWN);
    }

    private static void lettingGo() {
        Due.says("letGo: UNKNOWN, NOT: it is GONE");
        for (int s : new int[] {-1, 4, 12, MIN, MAX}) {
            refuses(RefusalTests::rich, "letGo(" + s + ")", x -> x.letGo(s), UNKNOWN);
            refuses(RefusalTests::withoutHouse, "no house: letGo(" + s + ")", x -> x.letGo(s), UNKNOWN);
        }
        refuses(RefusalTests::withoutHouse, "no house: letGo(0)", x -> x.letGo(0), UNKNOWN);
        refuses(RefusalTests::rich, "gave: letGo(1)", x -> x.letGo(1), NOT);
        refuses(RefusalTests::rich, "let go: letGo(2)", x -> x.letGo(2), NOT);
        refuses(RefusalTests::rich, "let out to none: letGo(3)", x -> x.letGo(3), NOT);
        refuses(RefusalTests::fullOfStraps, "letGo(12)", x -> x.letGo(12), UNKNOWN);
    }

    private static void saying() {
        Due.says("say: UNKNOWN, OUTSIDE, FULL (12)");
        for (int m : new int[] {-1, 3, 6, MIN, MAX}) {
            refuses(RefusalTests::rich, "say(" + m + ", 0, true, 1)", x -> x.say(m, 0, true, 1), UNKNOWN);
            refuses(RefusalTests::rich, "say(" + m + ", 8, true, 10)", x -> x.say(m, 8, true, 10), UNKNOWN);
            refuses(RefusalTests::fullOfStraps, "full: say(" + m + ", 8, true, 0)", x -> x.say(m, 8, true, 0), UNKNOWN);
        }
        for (int t : new int[] {-1, 8, MIN, MAX}) {
            refuses(RefusalTests::rich, "say(0, " + t + ", false, 1)", x -> x.say(0, t, false, 1), OUTSIDE);
            refuses(RefusalTests::fullOfStraps, "full: say(0, " + t + ", false, 1)", x -> x.say(0, t, false, 1), OUTSIDE);
        }
        for (int notch : new int[] {-1, 0, 10, MIN, MAX}) {
            refuses(RefusalTests::rich, "say(2, 7, true, " + notch + ")", x -> x.say(2, 7, true, notch), OUTSIDE);
            refuses(RefusalTests::fullOfStraps, "full: say(1, 7, true, " + notch + ")", x -> x.say(1, 7, true, notch), OUTSIDE);
        }
        refuses(RefusalTests::fullOfStraps, "full: say(0, 0, true, 1)", x -> x.say(0, 0, true, 1), FULL);
        refuses(RefusalTests::fullOfStraps, "full: say(1, 7, false, 9)", x -> x.say(1, 7, false, 9), FULL);
        refuses(RefusalTests::withoutHouse, "no house: say(0, 0, true, 1)", x -> x.say(0, 0, true, 1), UNKNOWN);
        refuses(RefusalTests::withoutHouse, "no house: say(0, 8, true, 0)", x -> x.say(0, 8, true, 0), UNKNOWN);
    }

    private static void sessions() {
        Due.says("session: NOT: no HOUSE");
        refuses(RefusalTests::withoutHouse, "no house: session()", x -> x.session(), NOT);
    }

    private static void drifting() {
        Due.says("drift: OUTSIDE, NOT: no HOUSE");
        for (int n : new int[] {-1, 0, 21, MIN, MAX}) {
            refuses(RefusalTests::rich, "drift(" + n + ")", x -> x.drift(n), OUTSIDE);
            refuses(RefusalTests::withoutHouse, "no house: drift(" + n + ")", x -> x.drift(n), OUTSIDE);
        }
        refuses(RefusalTests::withoutHouse, "no house: drift(1)", x -> x.drift(1), NOT);
        refuses(RefusalTests::withoutHouse, "no house: drift(20)", x -> x.drift(20), NOT);
    }

    private static void undoing() {
        Due.says("undo: OUTSIDE, NOT: not so many");
        for (int n : new int[] {-1, 0, 25, MIN, MAX}) {
            refuses(RefusalTests::rich, "undo(" + n + ")", x -> x.undo(n), OUTSIDE);
            refuses(RefusalTests::withoutHouse, "no house: undo(" + n + ")", x -> x.undo(n), OUTSIDE);
        }
        for (int n : new int[] {5, 6, 24}) {
            refuses(RefusalTests::rich, "four deeds: undo(" + n + ")", x -> x.undo(n), NOT);
            refuses(RefusalTests::withoutHouse, "no house: undo(" + n + ")", x -> x.undo(n), NOT);
        }
        refuses(RefusalTests::withoutHouse, "no house: undo(1)", x -> x.undo(1), NOT);
    }

    private static void going() {
        Due.says("goes: UNKNOWN, OUTSIDE");
        for (int m : new int[] {-1, 3, 6, MIN, MAX}) {
            refuses(RefusalTests::rich, "goes(" + m + ", 0, 0)", x -> x.goes(m, 0, 0), UNKNOWN);
            refuses(RefusalTests::rich, "goes(" + m + ", 8, 2)", x -> x.goes(m, 8, 2), UNKNOWN);
        }
        for (int t : new int[] {-1, 8, MIN, MAX}) {
            refuses(RefusalTests::rich, "goes(0, " + t + ", 0)", x -> x.goes(0, t, 0), OUTSIDE);
            refuses(RefusalTests::rich, "goes(2, " + t + ", 1)", x -> x.goes(2, t, 1), OUTSIDE);
        }
        for (int what : new int[] {-1, 2, MIN, MAX}) {
            refuses(RefusalTests::rich, "goes(0, 7, " + what + ")", x -> x.goes(0, 7, what), OUTSIDE);
            refuses(RefusalTests::withoutHouse, "no house: goes(0, 7, " + what + ")", x -> x.goes(0, 7, what), UNKNOWN);
        }
    }

    private static void matters() {
        Due.says("matter: OUTSIDE");
        for (int t : new int[] {-1, 8, MIN, MAX}) {
            for (int what : new int[] {0, 4, 5}) {
                refuses(RefusalTests::rich, "matter(" + t + ", " + what + ")", x -> x.matter(t, what), OUTSIDE);
            }
        }
        for (int what : new int[] {-1, 5, MIN, MAX}) {
            refuses(RefusalTests::rich, "matter(7, " + what + ")", x -> x.matter(7, what), OUTSIDE);
            refuses(RefusalTests::withoutHouse, "no house: matter(0, " + what + ")", x -> x.matter(0, what), OUTSIDE);
        }
    }

    private static void agendas() {
        Due.says("agenda: a SET (0 .. 255, 5 at most). OUTSIDE");
        for (int set : new int[] {-1, 256, MIN, MAX, 63, 252, 255, 127, 257}) {
            for (int what : new int[] {0, 1, 2}) {
                refuses(RefusalTests::rich, "agenda(" + set + ", " + what + ")", x -> x.agenda(set, what), OUTSIDE);
            }
        }
        for (int what : new int[] {-1, 2, MIN, MAX}) {
            refuses(RefusalTests::rich, "agenda(3, " + what + ")", x -> x.agenda(3, what), OUTSIDE);
            refuses(RefusalTests::withoutHouse, "no house: agenda(0, " + what + ")", x -> x.agenda(0, what), OUTSIDE);
        }
    }

    private static void powers() {
        Due.says("power: UNKNOWN, OUTSIDE");
        for (int m : new int[] {-1, 3, 6, MIN, MAX}) {
            refuses(RefusalTests::rich, "power(" + m + ", 0)", x -> x.power(m, 0), UNKNOWN);
            refuses(RefusalTests::rich, "power(" + m + ", 8)", x -> x.power(m, 8), UNKNOWN);
        }
        for (int t : new int[] {-1, 8, MIN, MAX}) {
            refuses(RefusalTests::rich, "power(2, " + t + ")", x -> x.power(2, t), OUTSIDE);
            refuses(RefusalTests::withoutHouse, "no house: power(0, " + t + ")", x -> x.power(0, t), UNKNOWN);
        }
    }

    private static void quietNights() {
        Due.says("quiet: n nights (0 .. 60), q of a hundred (0 .. 100). OUTSIDE");
        for (int n : new int[] {-1, 61, MIN, MAX}) {
            refuses(RefusalTests::rich, "quiet(" + n + ", 50)", x -> x.quiet(n, 50), OUTSIDE);
            refuses(RefusalTests::rich, "quiet(" + n + ", 0)", x -> x.quiet(n, 0), OUTSIDE);
        }
        for (int q : new int[] {-1, 101, MIN, MAX}) {
            refuses(RefusalTests::rich, "quiet(3, " + q + ")", x -> x.quiet(3, q), OUTSIDE);
            refuses(RefusalTests::withoutHouse, "quiet(0, " + q + ")", x -> x.quiet(0, q), OUTSIDE);
        }
    }

    private static void seeing() {
        Due.says("see: OUTSIDE, FULL (6)");
        for (int t : new int[] {-1, 8, MIN, MAX}) {
            refuses(RefusalTests::rich, "see(" + t + ", 0)", x -> x.see(t, 0), OUTSIDE);
            refuses(RefusalTests::fullOfPapers, "full: see(" + t + ", 0)", x -> x.see(t, 0), OUTSIDE);
        }
        for (int went : new int[] {-1, 3, MIN, MAX}) {
            refuses(RefusalTests::rich, "see(7, " + went + ")", x -> x.see(7, went), OUTSIDE);
            refuses(RefusalTests::fullOfPapers, "full: see(7, " + went + ")", x -> x.see(7, went), OUTSIDE);
        }
        refuses(RefusalTests::fullOfPapers, "full: see(0, 0)", x -> x.see(0, 0), FULL);
        refuses(RefusalTests::fullOfPapers, "full: see(7, 2)", x -> x.see(7, 2), FULL);
    }

    private static void writing() {
        Due.says("write: UNKNOWN, OUTSIDE, FULL (20)");
        for (int m : new int[] {-1, 3, 6, MIN, MAX}) {
            refuses(RefusalTests::rich, "write(" + m + ", 0, 0)", x -> x.write(m, 0, 0), UNKNOWN);
            refuses(RefusalTests::rich, "write(" + m + ", 8, 3)", x -> x.write(m, 8, 3), UNKNOWN);
            refuses(RefusalTests::fullOfPapers, "full: write(" + m + ", 8, 3)", x -> x.write(m, 8, 3), UNKNOWN);
        }
        for (int t : new int[] {-1, 8, MIN, MAX}) {
            refuses(RefusalTests::rich, "write(0, " + t + ", 0)", x -> x.write(0, t, 0), OUTSIDE);
            refuses(RefusalTests::fullOfPapers, "full: write(0, " + t + ", 0)", x -> x.write(0, t, 0), OUTSIDE);
        }
        for (int went : new int[] {-1, 3, MIN, MAX}) {
            refuses(RefusalTests::rich, "write(2, 7, " + went + ")", x -> x.write(2, 7, went), OUTSIDE);
            refuses(RefusalTests::fullOfPapers, "full: write(1, 7, " + went + ")", x -> x.write(1, 7, went), OUTSIDE);
        }
        refuses(RefusalTests::fullOfPapers, "full: write(0, 0, 1)", x -> x.write(0, 0, 1), FULL);
        refuses(RefusalTests::withoutHouse, "no house: write(0, 0, 0)", x -> x.write(0, 0, 0), UNKNOWN);
        refuses(RefusalTests::withoutHouse, "no house: write(0, 8, 3)", x -> x.write(0, 8, 3), UNKNOWN);
    }

    private static void seeds() {
        Due.says("seed: v (0 .. 2147483647). OUTSIDE");
        for (int v : new int[] {-1, -40, MIN}) {
            refuses(RefusalTests::rich, "seed(" + v + ")", x -> x.seed(v), OUTSIDE);
            refuses(RefusalTests::withoutHouse, "seed(" + v + ")", x -> x.seed(v), OUTSIDE);
        }
    }

    private static void images() {
        Due.says("keep: UNKNOWN; goBack: UNKNOWN, NOT: it was not kept");
        for (int i : new int[] {-1, 2, MIN, MAX}) {
            refuses(RefusalTests::rich, "keep(" + i + ")", x -> x.keep(i), UNKNOWN);
            refuses(RefusalTests::rich, "goBack(" + i + ")", x -> x.goBack(i), UNKNOWN);
            refuses(RefusalTests::withoutHouse, "keep(" + i + ")", x -> x.keep(i), UNKNOWN);
            refuses(RefusalTests::withoutHouse, "goBack(" + i + ")", x -> x.goBack(i), UNKNOWN);
        }
        refuses(RefusalTests::rich, "goBack(1)", x -> x.goBack(1), NOT);
        refuses(RefusalTests::withoutHouse, "goBack(0)", x -> x.goBack(0), NOT);
        refuses(RefusalTests::withoutHouse, "goBack(1)", x -> x.goBack(1), NOT);
    }

    private static void askingChangesNothing() {
        Due.says("TRIED from now, as nothing else is done; nothing changes by it");
        BoundBraces x = rich();
        for (int t = 0; t < 8; t++) {
            for (int what = 0; what <= 4; what++) {
                x.matter(t, what);
            }
            for (int m = 0; m < 3; m++) {
                x.goes(m, t, 0);
                x.power(m, t);
            }
        }
        x.agenda(31, 0);
        x.agenda(248, 1);
        x.agenda(0, 1);
        x.quiet(60, 99);
        x.couldBe();
        x.next();
        x.judge();
        x.fault();
        isLike("all that is tried", x, rich());
    }
}
