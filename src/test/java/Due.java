/** Counts the answers that are not the due ones; every test of the project ends with done(). */
final class Due {
    private static int asked = 0;
    private static int wrong = 0;
    private static String sentence = "";

    private Due() {
    }

    /** The document's sentence that the answers from here on are due by. */
    static void says(String words) {
        sentence = words + ": ";
    }

    static void is(String call, long got, long want) {
        asked++;
        if (got != want) {
            wrong++;
            if (wrong <= 50) {
                System.out.println(sentence + call + " answered " + got + ", due is " + want);
            }
        }
    }

    static void isSame(String what, String got, String want) {
        asked++;
        if (!got.equals(want)) {
            wrong++;
            if (wrong <= 50) {
                System.out.println(sentence + what + " is\n  " + got + "\ndue is\n  " + want);
            }
        }
    }

    static void done() {
        System.out.println(asked + " answers asked, " + wrong + " not as due");
        if (wrong != 0 || asked == 0) {
            System.exit(1);
        }
    }

    /** A new object with this text told. */
    static BoundBraces told(String text) {
        BoundBraces x = new BoundBraces();
        feed(x, text);
        x.house();
        return x;
    }

    static void feed(BoundBraces x, String text) {
        for (int i = 0; i < text.length(); i++) {
            x.feed(text.charAt(i));
        }
    }

    /** All that can be asked of what is so, but for fault(); nothing changes by it. */
    static String picture(BoundBraces x) {
        StringBuilder b = new StringBuilder("told");
        for (int what = 0; what <= 14; what++) {
            b.append(' ').append(x.told(what));
        }
        int seed = x.seed(0);
        x.seed(seed);
        b.append(" seed ").append(seed).append(" could ").append(x.couldBe());
        b.append(" next ").append(x.next()).append(" judge ").append(x.judge());
        for (int m = 0; m < x.told(1); m++) {
            b.append(" member");
            for (int what = 0; what <= 7; what++) {
                b.append(' ').append(x.member(m, what));
            }
        }
        for (int s = 0; s < x.told(2); s++) {
            b.append(" strap");
            for (int what = 0; what <= 5; what++) {
                b.append(' ').append(x.strap(s, what));
            }
        }
        for (int t = 0; t < 8; t++) {
            b.append(" matter ").append(x.matter(t, 1)).append(' ').append(x.matter(t, 3)).append(' ').append(x.matter(t, 4));
        }
        return b.toString();
    }
}
