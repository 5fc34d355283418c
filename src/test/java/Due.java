/** Counts the answers that are not the due ones; every test of the project ends with done(). */
final class Due {
    private static int asked = 0;
    private static int wrong = 0;

    private Due() {
    }

    static void is(String call, long got, long want) {
        asked++;
        if (got != want) {
            wrong++;
            if (wrong <= 50) {
                System.out.println(call + " answered " + got + ", due is " + want);
            }
        }
    }

    static void done() {
        System.out.println(asked + " answers asked, " + wrong + " not as due");
        if (wrong != 0 || asked == 0) {
            System.exit(1);
        }
    }

    /** A new object with this text told. */
    static BoundBraces told(String text) {
        BoundBraces x = new BoundBraces();
        feed(x, text);
        x.house();
        return x;
    }

    static void feed(BoundBraces x, String text) {
        for (int i = 0; i < text.length(); i++) {
            x.feed(text.charAt(i));
        }
    }
}
