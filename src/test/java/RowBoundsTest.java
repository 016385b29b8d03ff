/** Promises 1 to 5, 35, each sentence that names a bound: at it, below it, above it; the empty and the full; each refusal. */
final class RowBoundsTest {
    private static final int NONE = Town.NONE, BAD = Town.BAD, STATE = Town.STATE;
    private static final int NULL = Town.NULL, PLACE = Town.PLACE, KIND = Town.KIND, SIZE = Town.SIZE, STORE = Town.STORE;
    /** Nobody is OFF behind a STEP by WIND 5 to 9, one by WIND 0 to 4: so windy() tells an ITEM that is 0, or 1. */
    private static final String TELLER = "q0;f5,0;p1,1;";
    private static final int IS_0 = 992, IS_1 = 31, IS_OTHER = 0;
    private static final Due due = new Due("RowBoundsTest");

    public static void main(String[] args) {
        promise1();
        promise2Rows();
        promise2Lanes();
        promise2Size();
        promise2ItemsAre0();
        promise2InPlace();
        promise3Refused();
        promise3LowestBits();
        promise3Ends();
        promise4Refused();
        promise4Order();
        promise4Ends();
        promise4WrapsAround();
        promise4AsTheyWereAhead();
        promise4Full();
        promise5();
        promise35Numbers();
        promise35Calls();
        promise35Others();
        due.end();
    }

    private static Town town(String sentence) {
        return new Town(due, sentence);
    }

    private static void promise1() {
        Town x = town("1, no SQUARE, ROWS missing at first");
        x.are("count(", 0, 0, 0, 0, 0, 0, 0, 0).is(0, "fault()", "status()");
        x.is(NONE, "trace(0)", "trace(15)");
        x.is(STATE, "steps(1)", "wind(0)", "undo()", "off(0)", "all(0)", "never()", "quiet(0)", "order(0, -1)");
        x.is(STATE, "fewest(0, 0, 0)", "missing(0, 0, 1)", "windy(0, 0, 1)", "image(0)", "image(1)", "restore(0)", "restore(1)");
        x.is(BAD, "change(0)", "cough(0)", "sleeper(0, 0)", "sheep(0, 0)", "counted(0, 0)", "when(0)", "sorts(0, 0, 0, 1)");
        x.is(BAD, "stay(0, 0, 0, 0)", "kind(0)", "as(0, 0)", "ask(0, 0)");
        x.are("drop(", NULL, NULL, NULL, NULL, NULL, NULL, NULL, NULL, BAD);
    }

    private static void promise2Rows() {
        Town x = town("2, BAD: ROW (0 .. 7)");
        x.is(BAD, "row(MIN, 0, 3)", "row(-1, 0, 3)", "row(8, 0, 3)", "row(MAX, 0, 3)").is(0, "count(0)");
        for (int row = 0; row < 8; row++) x.is(3, "row(" + row + ", 0, 3)").is(row + 1, "count(0)");
    }

    private static void promise2Lanes() {
        Town x = town("2, BAD: LANE (0 .. 2)");
        x.is(BAD, "row(0, MIN, 3)", "row(0, -1, 3)", "row(0, 3, 3)", "row(0, MAX, 3)").is(0, "count(0)");
        x.is(3, "row(0, 0, 3)").is(-128, "set(0, 0, 32896)");
        x.is(3, "row(0, 1, 3)").is(-32640, "set(0, 0, 32896)");
        x.is(3, "row(0, 2, 3)").is(32896, "set(0, 0, 32896)");
    }

    private static void promise2Size() {
        Town x = town("2, 0 to 40 ITEMS; BAD: n above 40; SIZE");
        x.is(BAD, "row(0, 0, 41)", "row(0, 0, 42)", "row(0, 0, MAX)").is(0, "status()", "count(0)");
        x.is(SIZE, "row(0, 0, -1)", "row(0, 0, -2)", "row(0, 0, MIN)").is(4, "status()").is(0, "count(0)");
        x.is(0, "row(0, 0, 0)").is(1, "count(0)").is(PLACE, "set(0, 0, 0)").is(0, "drop(0)");
        x.is(1, "row(0, 0, 1)").is(0, "set(0, 0, 0)").is(PLACE, "set(0, 1, 0)").is(1, "drop(0)");
        x.is(39, "row(0, 0, 39)").is(0, "set(0, 38, 0)").is(PLACE, "set(0, 39, 0)").is(39, "drop(0)");
        x.is(40, "row(0, 0, 40)").is(0, "set(0, 39, 0)").is(PLACE, "set(0, 40, 0)").is(40, "drop(0)");
        town("2, BAD ahead of SIZE").is(BAD, "row(-1, 0, -1)", "row(8, 0, -1)", "row(0, -1, -1)", "row(0, 3, -1)").is(0, "status()");
    }

    private static void promise2ItemsAre0() {
        Town x = town("2, ITEMS are 0 at first").reads(TELLER);
        for (int lane = 0; lane < 3; lane++) {
            x.run("row(7, " + lane + ", 40)");
            for (int i = 0; i < 40; i++) x.is(IS_0, "windy(7, " + i + ", 1)").run("set(7, " + i + ", 1)");
        }
        x.is(IS_1, "windy(7, 39, 1)");
    }

    private static void promise2InPlace() {
        Town x = town("2, in place of what is there").reads(TELLER).run("row(3, 2, 5)", "set(3, 0, 1)", "set(3, 4, 1)");
        x.is(SIZE, "row(3, 0, -1)").is(BAD, "row(3, 0, 41)", "row(3, 3, 2)");
        x.is(IS_1, "windy(3, 0, 1)", "windy(3, 4, 1)").is(IS_0, "windy(3, 1, 1)").is(300, "set(3, 1, 300)");
        x.is(2, "row(3, 0, 2)").is(1, "count(0)").is(IS_0, "windy(3, 0, 1)", "windy(3, 1, 1)").is(PLACE, "set(3, 2, 0)");
        x.is(44, "set(3, 1, 300)").is(5, "row(3, 1, 5)").is(IS_0, "windy(3, 1, 1)", "windy(3, 4, 1)").is(1, "count(0)");
    }

    private static void promise3Refused() {
        Town x = town("3, BAD: ROW; NULL; PLACE").run("row(0, 0, 3)", "row(7, 0, 40)", "row(6, 0, 0)");
        x.is(BAD, "set(MIN, 0, 1)", "set(-1, 0, 1)", "set(8, 0, 1)", "set(MAX, 0, 1)", "set(8, -1, 1)").is(0, "status()");
        x.is(NULL, "set(1, 0, 1)", "set(1, -1, 1)", "set(5, 40, 1)").is(1, "status()");
        x.is(PLACE, "set(0, MIN, 1)", "set(0, -1, 1)", "set(0, 3, 1)", "set(0, 4, 1)", "set(0, MAX, 1)").is(2, "status()");
        x.is(PLACE, "set(7, -1, 1)", "set(7, 40, 1)", "set(6, 0, 1)", "set(6, -1, 1)");
        x.run("drop(0)").is(NULL, "set(0, 0, 1)");
    }

    private static void promise3LowestBits() {
        Town x = town("3, its lowest bits, as many as the LANE has").reads(TELLER).run("row(0, 0, 1)", "row(1, 1, 1)", "row(2, 2, 1)");
        x.is(127, "set(0, 0, 127)").is(-128, "set(0, 0, 128)", "set(0, 0, -128)").is(127, "set(0, 0, -129)");
        x.is(-1, "set(0, 0, 255)", "set(0, 0, -1)", "set(0, 0, MAX)").is(0, "set(0, 0, 256)", "set(0, 0, MIN)");
        x.is(32767, "set(1, 0, 32767)").is(-32768, "set(1, 0, 32768)", "set(1, 0, -32768)").is(32767, "set(1, 0, -32769)");
        x.is(-1, "set(1, 0, 65535)", "set(1, 0, -1)", "set(1, 0, MAX)").is(0, "set(1, 0, 65536)", "set(1, 0, MIN)");
        x.is(128, "set(1, 0, 128)").is(32768, "set(2, 0, 32768)").is(65536, "set(2, 0, 65536)");
        x.is(Integer.MAX_VALUE, "set(2, 0, MAX)").is(Integer.MIN_VALUE, "set(2, 0, MIN)").is(-1, "set(2, 0, -1)");
        x.is(1, "set(0, 0, 257)", "set(1, 0, 65537)").is(IS_1, "windy(0, 0, 1)", "windy(1, 0, 1)");
        x.is(257, "set(1, 0, 257)", "set(2, 0, 257)").is(IS_OTHER, "windy(1, 0, 1)", "windy(2, 0, 1)");
        x.is(65536, "set(2, 0, 65536)").is(IS_OTHER, "windy(2, 0, 1)");
        x.is(-1, "set(0, 0, -1)").is(IS_OTHER, "windy(0, 0, 1)");
    }

    private static void promise3Ends() {
        Town x = town("3, ITEM i alone").reads(TELLER).run("row(3, 0, 40)", "row(4, 0, 40)", "row(5, 0, 40)");
        x.is(1, "set(4, 0, 1)", "set(4, 39, 1)").is(IS_1, "windy(4, 0, 1)", "windy(4, 39, 1)");
        x.is(IS_0, "windy(4, 1, 1)", "windy(4, 38, 1)", "windy(3, 39, 1)", "windy(5, 0, 1)", "windy(3, 0, 1)", "windy(5, 39, 1)");
    }

    private static void promise4Refused() {
        Town x = town("4, BAD: ROWS").run("row(0, 0, 3)", "row(7, 0, 3)");
        x.is(BAD, "copy(-1, 0, 0, 0, 1)", "copy(8, 0, 0, 0, 1)", "copy(MIN, 0, 0, 0, 1)", "copy(MAX, 0, 0, 0, 1)");
        x.is(BAD, "copy(0, 0, -1, 0, 1)", "copy(0, 0, 8, 0, 1)", "copy(0, 0, MIN, 0, 1)", "copy(0, 0, MAX, 0, 1)");
        x.is(0, "status()").is(1, "copy(0, 0, 7, 0, 1)", "copy(7, 2, 0, 2, 1)");
        town("4, NULL").run("row(0, 0, 3)").is(NULL, "copy(1, 0, 0, 0, 1)", "copy(0, 0, 1, 0, 1)", "copy(1, 0, 1, 0, 0)",
            "copy(2, 0, 1, 0, 1)").is(1, "status()");
        x = town("4, STORE, even of none").run("row(0, 0, 3)", "row(1, 1, 3)", "row(2, 2, 3)", "row(3, 2, 0)");
        x.is(STORE, "copy(0, 0, 1, 0, 1)", "copy(1, 0, 0, 0, 0)", "copy(0, 0, 2, 0, 1)", "copy(2, 0, 0, 0, 1)", "copy(1, 0, 2, 0, 1)");
        x.is(STORE, "copy(2, 0, 1, 0, 3)", "copy(3, 0, 0, 0, 0)").is(5, "status()").is(0, "copy(3, 0, 2, 0, 0)", "status()");
    }

    private static void promise4Order() {
        Town x = town("4, of several the first in time").run("row(0, 0, 3)", "row(1, 1, 3)");
        x.is(BAD, "copy(2, 0, 8, 0, 1)", "copy(-1, 0, 2, 0, 1)", "copy(8, -1, 0, 0, 1)");
        x.is(NULL, "copy(2, -1, 0, 0, 1)", "copy(0, 0, 2, 9, 1)", "copy(2, 0, 1, 0, -1)");
        x.is(STORE, "copy(0, -1, 1, 0, 1)", "copy(0, 0, 1, 4, 1)", "copy(1, 0, 0, 0, -1)");
    }

    private static void promise4Ends() {
        Town x = town("4, PLACE (i, j, n below 0, or beyond an end)").run("row(0, 0, 4)", "row(1, 0, 3)", "row(2, 0, 0)");
        x.is(PLACE, "copy(0, -1, 1, 0, 1)", "copy(0, 0, 1, -1, 1)", "copy(0, 0, 1, 0, -1)", "copy(0, -1, 1, -1, 0)").is(2, "status()");
        x.is(PLACE, "copy(0, 4, 1, 0, 1)", "copy(0, 2, 1, 0, 3)", "copy(0, 5, 1, 0, 0)").is(1, "copy(0, 3, 1, 0, 1)")
            .is(3, "copy(0, 1, 1, 0, 3)");
        x.is(PLACE, "copy(0, 0, 1, 3, 1)", "copy(0, 0, 1, 1, 3)", "copy(0, 0, 1, 4, 0)").is(1, "copy(0, 0, 1, 2, 1)")
            .is(3, "copy(0, 0, 1, 0, 3)");
        x.is(PLACE, "copy(0, 0, 1, 0, 4)", "copy(1, 0, 0, 0, 4)").is(0, "copy(0, 4, 1, 3, 0)", "copy(0, 0, 1, 0, 0)");
        x.is(0, "copy(2, 0, 0, 4, 0)", "copy(0, 0, 2, 0, 0)", "copy(2, 0, 2, 0, 0)", "status()");
        x.is(PLACE, "copy(2, 0, 0, 0, 1)", "copy(0, 0, 2, 0, 1)", "copy(2, 1, 0, 0, 0)", "copy(0, 0, 2, 1, 0)", "copy(2, 0, 2, 0, -1)");
    }

    private static void promise4WrapsAround() {
        Town x = town("4, a sum that wraps around is beyond an end").run("row(0, 0, 4)", "row(1, 0, 4)");
        x.is(PLACE, "copy(0, MAX, 1, 0, 1)", "copy(0, MAX, 1, 0, 2)", "copy(0, MAX, 1, 0, MAX)", "copy(0, MIN, 1, 0, 1)",
            "copy(0, MIN, 1, 0, MIN)");
        x.is(PLACE, "copy(0, 0, 1, MAX, 1)", "copy(0, 0, 1, MAX, 2)", "copy(0, 0, 1, MIN, 1)", "copy(0, 1, 1, 1, MAX)",
            "copy(0, 0, 1, 0, MAX)");
        x.is(PLACE, "copy(0, 0, 1, 0, MIN)", "copy(0, 1, 1, 0, MIN)", "copy(0, MAX, 1, MAX, 0)", "copy(0, MIN, 1, MIN, 0)");
    }

    private static void promise4AsTheyWereAhead() {
        Town x = town("4, onwards over itself, as they were ahead").reads(TELLER).run("row(0, 0, 5)", "set(0, 0, 1)", "set(0, 3, 1)");
        x.is(4, "copy(0, 0, 0, 1, 4)").is(IS_1, "windy(0, 0, 1)", "windy(0, 1, 1)", "windy(0, 4, 1)")
            .is(IS_0, "windy(0, 2, 1)", "windy(0, 3, 1)");
        x = town("4, back over itself, as they were ahead").reads(TELLER).run("row(0, 0, 5)", "set(0, 1, 1)", "set(0, 4, 1)");
        x.is(4, "copy(0, 1, 0, 0, 4)").is(IS_1, "windy(0, 0, 1)", "windy(0, 3, 1)", "windy(0, 4, 1)")
            .is(IS_0, "windy(0, 1, 1)", "windy(0, 2, 1)");
        x = town("4, where they are").reads(TELLER).run("row(0, 0, 2)", "set(0, 1, 1)");
        x.is(2, "copy(0, 0, 0, 0, 2)").is(IS_0, "windy(0, 0, 1)").is(IS_1, "windy(0, 1, 1)");
        x = town("4, none comes").reads(TELLER).run("row(0, 0, 2)", "row(1, 0, 2)", "set(0, 0, 1)");
        x.is(0, "copy(0, 0, 1, 0, 0)").is(IS_0, "windy(1, 0, 1)", "windy(1, 1, 1)").is(IS_1, "windy(0, 0, 1)");
    }

    private static void promise4Full() {
        Town x = town("4, 40 ITEMS").reads(TELLER).run("row(6, 2, 40)", "row(7, 2, 40)");
        for (int i = 0; i < 40; i += 3) x.run("set(6, " + i + ", 1)");
        x.is(PLACE, "copy(6, 0, 7, 0, 41)", "copy(6, 1, 7, 0, 40)", "copy(6, 0, 7, 1, 40)").is(40, "copy(6, 0, 7, 0, 40)");
        for (int i = 0; i < 40; i++) x.is(i % 3 == 0 ? IS_1 : IS_0, "windy(7, " + i + ", 1)", "windy(6, " + i + ", 1)");
    }

    private static void promise5() {
        Town x = town("5, BAD; NULL").is(BAD, "drop(MIN)", "drop(-1)", "drop(8)", "drop(MAX)").is(0, "status()");
        x.is(NULL, "drop(0)", "drop(7)").is(1, "status()");
        x = town("5, how many ITEMS it had").run("row(0, 0, 0)", "row(1, 1, 1)", "row(6, 2, 39)", "row(7, 2, 40)");
        x.is(0, "drop(0)").is(1, "drop(1)").is(39, "drop(6)").is(1, "count(0)").is(40, "drop(7)").is(0, "count(0)", "status()");
        x = town("5, missing from now on").reads(TELLER).run("row(0, 2, 2)", "row(1, 2, 2)", "set(0, 1, 1)", "drop(0)");
        x.is(NULL, "drop(0)", "set(0, 0, 0)", "copy(0, 0, 1, 0, 1)", "copy(1, 0, 0, 0, 1)", "windy(0, 0, 1)", "missing(0, 0, 1)",
            "sorts(0, 0, 0, 1)");
        x.is(2, "row(0, 2, 2)").is(IS_0, "windy(0, 1, 1)");
    }

    private static void promise35Numbers() {
        Town x = town("35, the number of its FINDING").reads("q0;f1,0;f1,0;p1,0;").run("row(0, 0, 2)", "row(1, 1, 2)").is(0, "status()");
        x.is(NULL, "drop(2)").is(1, "status()", "status()").is(PLACE, "set(0, 2, 0)").is(2, "status()").is(KIND, "as(0, 4)")
            .is(3, "status()");
        x.is(SIZE, "row(0, 0, -1)").is(4, "status()").is(STORE, "copy(0, 0, 1, 0, 1)").is(5, "status()");
    }

    /** Each call with a ROW, and as(), takes a FINDING back that the one before it had. */
    private static void promise35Calls() {
        String[] calls = {"row(1, 0, 2)", "set(0, 0, 1)", "copy(0, 0, 0, 1, 1)", "missing(0, 0, 1)", "windy(0, 0, 1)",
            "sorts(0, 0, 0, 1)", "as(0, 0)", "drop(0)"};
        for (String one : calls) {
            Town x = town("35, 0: " + one + " had none").reads("q0;f1,0;f1,0;p1,0;").run("row(0, 0, 2)", "set(0, 2, 0)");
            x.is(2, "status()").run(one).is(0, "status()");
        }
        String[] found = {"set(7, 0, 0)", "copy(7, 0, 0, 0, 1)", "copy(0, 0, 7, 0, 1)", "missing(7, 0, 1)", "windy(7, 0, 1)",
            "sorts(0, 7, 0, 1)", "drop(7)"};
        for (String one : found) {
            Town x = town("35, NULL of " + one).reads("q0;f1,0;f1,0;p1,0;").run("row(0, 0, 2)");
            x.is(0, "status()").is(NULL, one).is(1, "status()");
        }
        String[] places = {"set(0, -1, 0)", "copy(0, -1, 0, 0, 1)", "missing(0, -1, 1)", "windy(0, 2, 1)", "sorts(0, 0, 1, 2)"};
        for (String one : places) {
            Town x = town("35, PLACE of " + one).reads("q0;f1,0;f1,0;p1,0;").run("row(0, 0, 2)");
            x.is(0, "status()").is(PLACE, one).is(2, "status()");
        }
    }

    private static void promise35Others() {
        Town x = town("35, a call that is BAD leaves it").reads("q0;f1,0;f1,0;p1,0;").run("row(0, 0, 2)", "row(0, 0, -1)");
        x.is(BAD, "row(8, 0, 0)", "row(0, 3, 0)", "row(0, 0, 41)", "set(8, 0, 0)", "copy(8, 0, 0, 0, 0)", "copy(0, 0, 8, 0, 0)", "drop(8)");
        x.is(BAD, "missing(8, 0, 1)", "missing(0, 0, 0)", "windy(8, 0, 1)", "windy(0, 0, 17)", "sorts(1, 0, 0, 1)", "sorts(0, 8, 0, 1)",
            "as(1, 0)", "as(0, 6)");
        x.is(4, "status()");
        x = town("35, a call that is STATE leaves it").run("row(0, 0, -1)").is(STATE, "missing(0, 0, 1)", "windy(0, 0, 1)")
            .is(4, "status()");
        x = town("35, calls without a ROW leave it").run("row(0, 0, -1)").reads("q0;f1,0;f1,0;p1,0;");
        x.run("steps(3)", "change(0)", "wind(3)", "cough(0)", "undo()", "sleeper(0, 0)", "sheep(0, 0)", "off(0)", "counted(0, 9)",
            "when(0)", "all(1)");
        x.run("never()", "quiet(1)", "order(1, 0)", "fewest(1, 9, 0)", "stay(0, 9, 5, 0)", "image(0)", "restore(0)", "kind(0)",
            "ask(0, 1)", "trace(0)");
        x.run("count(0)", "fault()", "feed(300)", "feed(120)", "square()", "undo()", "restore(1)", "steps(0)").is(4, "status()");
    }
}
