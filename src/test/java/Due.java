/** Holds answers against those that are due, prints each that is not, and ends the test. */
final class Due {
    private final String test;
    private int asked = 0;
    private int wrong = 0;

    Due(String test) {
        this.test = test;
    }

    void is(String call, long got, long due) {
        asked++;
        if (got == due) return;
        wrong++;
        if (wrong <= 40) System.out.println(test + ": " + call + " answered " + got + ", due is " + due);
    }

    void holds(String what, boolean so) {
        is(what, so ? 1 : 0, 1);
    }

    void end() {
        System.out.println(test + ": " + asked + " answers, " + wrong + " not as due");
        if (asked == 0 || wrong != 0) System.exit(1);
    }

    /** Feeds a text and reads it: what square() answers. */
    static int read(SheepSquare x, String text) {
        for (int i = 0; i < text.length(); i++) x.feed(text.charAt(i));
        return x.square();
    }

    static SheepSquare town(String text) {
        SheepSquare x = new SheepSquare();
        if (read(x, text) < 0) throw new IllegalArgumentException("no square: " + text);
        return x;
    }
}
