/** Promises 30 to 33: each bound of KINDS, ASKS and THE TRACE. */
final class AskBoundsTest {
    private static final int NONE = Town.NONE, BAD = Town.BAD, KIND = Town.KIND;
    private static final String FIVE = "q0;f1,1;p60,0;d60,0;t60,0;n60,0;l60,0;", FIVE_LEAST = "q0;f1,1;p1,0;d1,0;t1,0;n1,0;l1,0;";
    private static final Due due = new Due("AskBoundsTest");

    public static void main(String[] args) {
        promise30();
        promise31Refused();
        promise31EachKind();
        promise32Refused();
        promise32LeastAndMost();
        promise32EmptyAhead();
        promise33();
        due.end();
    }

    private static Town town(String sentence) {
        return new Town(due, sentence);
    }

    private static void promise30() {
        town("30, BAD: no SQUARE").is(BAD, "kind(0)", "kind(-1)", "kind(4)");
        town("30, BAD: nobody there").reads("q0;f1,0;").is(BAD, "kind(0)");
        town("30, BAD").reads(FIVE).is(BAD, "kind(MIN)", "kind(-1)", "kind(5)", "kind(6)", "kind(MAX)").are("kind(", 1, 2, 3, 4, 5, BAD);
        town("30, of two").reads("q0;f1,0;l1,0;d1,0;").are("kind(", 5, 2, BAD, BAD);
        town("30, of a SQUARE with fewer").reads(FIVE).reads("q0;f1,0;n1,0;").are("kind(", 4, BAD, BAD, BAD, BAD);
    }

    private static void promise31Refused() {
        town("31, BAD: no SQUARE").is(BAD, "as(0, 0)", "as(0, 5)", "as(-1, 0)").is(0, "status()");
        town("31, BAD: nobody there").reads("q0;f1,0;").is(BAD, "as(0, 0)");
        Town x = town("31, BAD").reads(FIVE).run("row(0, 0, -1)").is(BAD, "as(MIN, 0)", "as(-1, 0)", "as(5, 0)", "as(6, 5)", "as(MAX, 0)");
        x.is(BAD, "as(0, MIN)", "as(0, -1)", "as(0, 6)", "as(4, 7)", "as(0, MAX)", "as(5, 6)").is(4, "status()");
        x.is(KIND, "as(0, 5)").is(3, "status()").is(4, "as(4, 5)").is(0, "status()").is(0, "as(0, 0)");
    }

    /** Rows of p, d, t, n, l: which of the KINDS 0 to 5 each is. */
    private static void promise31EachKind() {
        String[] is = {"11....", "111...", "11.1..", "1...1.", "1...11"};
        Town x = town("31, KIND: it is no such one").reads(FIVE);
        for (int s = 0; s < 5; s++) {
            for (int kind = 0; kind < 6; kind++) {
                boolean so = is[s].charAt(kind) == '1';
                x.is(so ? s : KIND, "as(" + s + ", " + kind + ")").is(so ? 0 : 3, "status()").is(s + 1, "kind(" + s + ")");
            }
        }
    }

    private static void promise32Refused() {
        town("32, BAD: no SQUARE").is(BAD, "ask(0, 0)", "ask(0, 1)", "ask(-1, 0)");
        town("32, BAD: nobody there").reads("q0;f1,0;").is(BAD, "ask(0, 0)", "ask(0, 1)");
        Town x = town("32, BAD").reads(FIVE).run("ask(1, 0)").is(BAD, "ask(MIN, 0)", "ask(-1, 0)", "ask(5, 0)", "ask(6, 1)", "ask(MAX, 0)");
        x.is(BAD, "ask(0, MIN)", "ask(0, -1)", "ask(0, 2)", "ask(4, 3)", "ask(0, MAX)").are("trace(", 12, 11, 10, 24, 21, 20, NONE);
    }

    private static void promise32LeastAndMost() {
        Town x = town("32, NEEDS 60, COUNTED 99").reads(FIVE);
        for (int i = 0; i < 5; i++) x.run("steps(24)");
        x.is(60 + 99, "ask(0, 0)").is(99, "ask(0, 1)").is(-(60 + 200), "ask(1, 0)").is(200, "ask(1, 1)").is(60 + 101 - 1000, "ask(2, 0)")
            .is(101 - 1000, "ask(2, 1)");
        x.is(-40, "ask(3, 0)").is(3 + 40, "ask(3, 1)").is(-80, "ask(4, 0)").is(4 + 80, "ask(4, 1)");
        x = town("32, NEEDS 1, COUNTED 0").reads(FIVE_LEAST);
        x.is(1, "ask(0, 0)").is(0, "ask(0, 1)").is(-3, "ask(1, 0)").is(2, "ask(1, 1)").is(1 + 2 - 1000, "ask(2, 0)")
            .is(2 - 1000, "ask(2, 1)");
        x.is(-99, "ask(3, 0)").is(3 + 99, "ask(3, 1)").is(-198, "ask(4, 0)").is(4 + 198, "ask(4, 1)");
        x.run("steps(1)").is(2, "ask(0, 0)").is(1, "ask(0, 1)").run("cough(0)").is(1, "ask(0, 0)").is(0, "ask(0, 1)");
        town("32, a NERVOUS one as sleeper 0").reads("q0;f1,1;n7,0;").is(-93, "ask(0, 0)").is(93, "ask(0, 1)");
    }

    private static void promise32EmptyAhead() {
        Town x = town("32, THE TRACE is empty ahead of it").reads(FIVE).run("ask(1, 0)").are("trace(", 12, 11, 10, 24, 21, 20, NONE);
        x.run("ask(3, 0)").are("trace(", 13, 10, NONE, NONE, NONE, NONE, NONE).run("ask(0, 1)")
            .are("trace(", 21, 20, NONE, NONE, NONE, NONE);
        x.run("ask(4, 1)").are("trace(", 23, 20, 14, 13, 10, NONE).run("ask(2, 0)").are("trace(", 11, 10, 22, 21, 20, NONE);
        x.run("ask(2, 1)").are("trace(", 22, 21, 20, NONE).run("ask(1, 1)").are("trace(", 24, 21, 20, NONE).run("ask(0, 0)")
            .are("trace(", 11, 10, 21, 20, NONE);
        x.run("ask(3, 1)").are("trace(", 23, 20, 13, 10, NONE).run("ask(4, 0)").are("trace(", 14, 13, 10, NONE);
        x.run("steps(3)", "as(0, 5)", "kind(0)", "off(9)", "undo()").are("trace(", 14, 13, 10, NONE).reads("q0;f1,0;")
            .are("trace(", 14, 13, 10, NONE);
    }

    private static void promise33() {
        Town x = town("33, NONE: no ask yet").is(NONE, "trace(MIN)", "trace(-1)", "trace(0)", "trace(15)", "trace(16)", "trace(MAX)");
        x.reads(FIVE).is(NONE, "trace(0)", "trace(1)").is(BAD, "ask(5, 0)").is(NONE, "trace(0)").run("ask(1, 0)");
        x.is(NONE, "trace(MIN)", "trace(-1)", "trace(6)", "trace(7)", "trace(15)", "trace(16)", "trace(17)", "trace(MAX)")
            .is(12, "trace(0)").is(20, "trace(5)");
    }
}
