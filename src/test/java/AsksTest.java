/** Promises 30 to 33: KINDS of SLEEPERS, ASKS and THE TRACE. */
final class AsksTest {
    private static final int NONE = SheepSquare.NONE, BAD = SheepSquare.BAD, KIND = -1000013;
    private static final Due due = new Due("AsksTest");

    public static void main(String[] args) {
        kinds();
        asks();
        wrongAsks();
        due.end();
    }

    private static SheepSquare five() {
        return Due.town("q0;f1,0;p10,0;d20,0;t30,0;n40,0;l50,0;");
    }

    private static void kinds() {
        SheepSquare x = five();
        int[] is = {0, 0b000011, 0b000111, 0b001011, 0b010001, 0b110001};
        for (int s = 0; s < 5; s++) {
            due.is("kind(" + s + ")", x.kind(s), s + 1);
            for (int kind = 0; kind < 6; kind++) {
                boolean so = (is[s + 1] >> kind & 1) != 0;
                due.is("as(" + s + ", " + kind + ")", x.as(s, kind), so ? s : KIND);
                due.is("status of it", x.status(), so ? 0 : 3);
            }
            due.is("as(" + s + ", 6)", x.as(s, 6), BAD);
            due.is("as(" + s + ", -1)", x.as(s, -1), BAD);
            due.is("kind stays", x.kind(s), s + 1);
        }
        due.is("as(5, 0)", x.as(5, 0), BAD);
        due.is("as(-1, 0)", x.as(-1, 0), BAD);
        due.is("kind(5)", x.kind(5), BAD);
        due.is("kind(-1)", x.kind(-1), BAD);
    }

    private static void asked(SheepSquare x, int sleeper, int what, int answer, int... trace) {
        String call = "ask(" + sleeper + ", " + what + ")";
        due.is(call, x.ask(sleeper, what), answer);
        for (int i = 0; i < trace.length; i++) due.is(call + " trace " + i, x.trace(i), trace[i]);
        for (int i = trace.length; i < 18; i++) due.is(call + " trace " + i, x.trace(i), NONE);
    }

    private static void asks() {
        SheepSquare x = five();
        x.steps(3);
        asked(x, 0, 0, 10 + 0 + 3, 11, 10, 21, 20);
        asked(x, 0, 1, 0 + 3, 21, 20);
        asked(x, 1, 0, -(20 + 2 * (1 + 6)), 12, 11, 10, 24, 21, 20);
        asked(x, 1, 1, 2 * (1 + 6), 24, 21, 20);
        asked(x, 2, 0, 30 + 2 + 3 - 1000, 11, 10, 22, 21, 20);
        asked(x, 2, 1, 2 + 3 - 1000, 22, 21, 20);
        asked(x, 3, 0, 40 - 100, 13, 10);
        asked(x, 3, 1, 3 - (40 - 100), 23, 20, 13, 10);
        asked(x, 4, 0, 2 * (50 - 100), 14, 13, 10);
        asked(x, 4, 1, 4 - 2 * (50 - 100), 23, 20, 14, 13, 10);
    }

    private static void wrongAsks() {
        SheepSquare x = five();
        due.is("no ask yet", x.trace(0), NONE);
        x.ask(3, 1);
        due.is("ask(5, 0)", x.ask(5, 0), BAD);
        due.is("ask(-1, 0)", x.ask(-1, 0), BAD);
        due.is("ask(0, 2)", x.ask(0, 2), BAD);
        due.is("ask(0, -1)", x.ask(0, -1), BAD);
        due.is("a refused ask leaves the trace", x.trace(0), 23);
        due.is("trace(-1)", x.trace(-1), NONE);
        due.is("trace(16)", x.trace(16), NONE);
        due.is("trace at the far end", x.trace(Integer.MAX_VALUE), NONE);
        due.is("trace at the near end", x.trace(Integer.MIN_VALUE), NONE);
        Due.read(x, "q0;f1,0;");
        due.is("a new square leaves the trace", x.trace(1), 20);
    }
}
