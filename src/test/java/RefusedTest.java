import java.util.ArrayList;
import java.util.List;

/**
 * What is refused, or found, changes nothing but status(), and what is foretold or told changes nothing: after such a call
 * a town answers all that can be asked of it as its twin does, to which the call was not made.
 */
final class RefusedTest {
    private static final int NONE = Town.NONE, BAD = Town.BAD, STATE = Town.STATE, FULL = Town.FULL;
    private static final int NULL = Town.NULL, PLACE = Town.PLACE, KIND = Town.KIND, SIZE = Town.SIZE, STORE = Town.STORE;
    private static final int FOUND = -1000010;
    /** Of a call that is not refused: what it answers is looked at elsewhere; of any: status() is what it was. */
    private static final int ANY = 0, SAME_STATUS = -1;
    private static final Due due = new Due("RefusedTest");

    private enum Start { EMPTY, BUSY, FULL_TAPE, FULL_TAPE_AND_BUSY, NO_ACTS, FIRST_IMAGE, SECOND_IMAGE, LAST_STEP }

    public static void main(String[] args) {
        refusedWithoutASquare();
        refusedRows();
        foundRows();
        refusedActs();
        refusedForetold();
        foundForetold();
        refusedAsks();
        full();
        toldOnly();
        foretoldOnly();
        faultyText();
        byHand();
        due.end();
    }

    // ---- the twins

    private static Town start(Start how, String why) {
        Town x = new Town(due, why);
        if (how == Start.LAST_STEP) {
            x.reads("q0;f1,0;p1,0;");
            for (int i = 0; i < 416; i++) x.run("steps(24)");
            return x.run("steps(10)", "image(1)", "undo()", "ask(0, 0)", "row(1, 1, 1)", "row(0, 0, -1)", "square()", "feed(113)");
        }
        x.run("row(0, 0, 3)", "set(0, 0, 1)", "set(0, 1, 2)", "set(0, 2, 3)", "row(1, 1, 3)", "set(1, 1, 1)", "row(2, 2, 3)",
            "set(2, 2, 5)", "row(3, 2, 0)");
        if (how == Start.FULL_TAPE) return x.feed("q1;f5,0;p1,0;" + "p".repeat(87)).run("set(0, 3, 0)");
        x.feed("q10;").run("square()");
        if (how != Start.EMPTY) busy(x, how);
        if (how == Start.NO_ACTS) x.run("restore(1)");
        return x.feed("q1;f55").feed(how == Start.FULL_TAPE_AND_BUSY ? "p".repeat(94) : "").run("set(0, 3, 0)");
    }

    private static void busy(Town x, Start how) {
        x.reads("q4;f5,0;f2,1;f9,2;f4,3;f7,1;f6,0;p4,0;d9,1;t6,0;n2,1;l2,0;").run("steps(5)");
        if (how != Start.SECOND_IMAGE) x.run("image(0)");
        x.run("change(1)", "wind(7)", "cough(0)", "steps(3)");
        if (how != Start.FIRST_IMAGE) x.run("image(1)");
        x.run("wind(2)", "steps(2)", "ask(1, 0)");
    }

    private static int ask(Town x, List<String> asked, String call) {
        int answer = x.call(call);
        asked.add(call + " = " + answer);
        return answer;
    }

    private static void look(Town x, List<String> asked) {
        for (int what = 1; what < 8; what++) ask(x, asked, "count(" + what + ")");
        ask(x, asked, "off(0)");
        for (int s = 0; s < 5; s++) ask(x, asked, "sleeper(" + s + ", 2)");
        for (int h = 0; h < 6; h++) ask(x, asked, "sheep(" + h + ", 2)");
    }

    /** All that can be asked of a town, the ways that use it up last. */
    private static List<String> everything(Town x, Start how) {
        List<String> asked = new ArrayList<>();
        ask(x, asked, "fault()");
        ask(x, asked, "count(0)");
        look(x, asked);
        if (how == Start.LAST_STEP) return lastStep(x, asked);
        for (int i = 0; i < 7; i++) ask(x, asked, "trace(" + i + ")");
        for (int s = 0; s < 5; s++) {
            ask(x, asked, "kind(" + s + ")");
            ask(x, asked, "sleeper(" + s + ", 0)");
            ask(x, asked, "sleeper(" + s + ", 4)");
        }
        for (int h = 0; h < 6; h++) {
            ask(x, asked, "sheep(" + h + ", 0)");
            ask(x, asked, "sheep(" + h + ", 1)");
        }
        ask(x, asked, "square()");
        ask(x, asked, "fault()");
        for (int i = 0; i < 25 && ask(x, asked, "undo()") != STATE; i++) {
            ask(x, asked, "off(0)");
            ask(x, asked, "count(4)");
            ask(x, asked, "sheep(1, 2)");
            ask(x, asked, "sleeper(0, 2)");
        }
        look(x, asked);
        for (int k = 0; k < 2; k++) if (ask(x, asked, "restore(" + k + ")") == 1) look(x, asked);
        items(x, asked);
        return asked;
    }

    /** Few calls are left to a town that has gone so far. */
    private static List<String> lastStep(Town x, List<String> asked) {
        String[] calls = {"trace(0)", "trace(1)", "kind(0)", "sleeper(0, 0)", "sheep(0, 0)", "set(1, 0, 70000)", "square()", "undo()",
            "count(3)", "count(6)", "restore(0)", "restore(1)", "count(3)", "count(4)"};
        for (String call : calls) ask(x, asked, call);
        return asked;
    }

    /** In this town as many are OFF as STEPS went by, whatever the wind: so windy() tells what an ITEM is. */
    private static void items(Town x, List<String> asked) {
        x.reads("q0;f1,0;p1,0;p2,0;p3,0;p4,0;p5,0;");
        for (int step = 1; step <= 5; step++) {
            for (int row = 0; row < 3; row++) for (int i = 0; i < 3; i++) ask(x, asked, "windy(" + row + ", " + i + ", 1)");
            x.run("steps(1)");
        }
        for (int row = 0; row < 3; row++) {
            ask(x, asked, "set(" + row + ", 0, 70000)");
            ask(x, asked, "drop(" + row + ")");
        }
        for (int row = 3; row < 8; row++) ask(x, asked, "drop(" + row + ")");
    }

    private static void same(Start how, int answer, int status, String... calls) {
        Town twin = start(how, "the twin, " + how);
        int before = twin.call("status()");
        List<String> wanted = everything(twin, how);
        for (String call : calls) {
            Town x = start(how, call + " of a town that is " + how);
            if (answer == ANY) x.run(call);
            else x.is(answer, call);
            x.is(status == SAME_STATUS ? before : status, "status()");
            List<String> got = everything(x, how);
            due.is(call + ", " + how + ": answers", got.size(), wanted.size());
            for (int i = 0; i < Math.min(got.size(), wanted.size()); i++) {
                due.holds(call + ", " + how + ": " + got.get(i) + ", its twin's " + wanted.get(i), got.get(i).equals(wanted.get(i)));
            }
        }
    }

    private static void refused(Start how, int answer, String... calls) {
        same(how, answer, SAME_STATUS, calls);
    }

    private static void found(Start how, int answer, String... calls) {
        same(how, answer, FOUND - answer, calls);
    }

    // ---- the calls

    private static void refusedWithoutASquare() {
        refused(Start.EMPTY, STATE, "steps(1)", "steps(0)", "steps(25)", "wind(0)", "wind(10)", "undo()", "off(0)", "off(100)", "all(0)",
            "all(32)", "never()");
        refused(Start.EMPTY, STATE, "quiet(0)", "quiet(6)", "order(0, -1)", "order(0, 6)", "fewest(0, 0, 0)", "fewest(0, 0, 2)",
            "missing(0, 0, 1)", "missing(8, 0, 1)");
        refused(Start.EMPTY, STATE, "windy(0, 0, 1)", "windy(0, 0, 17)", "windy(5, 0, 1)", "windy(0, 3, 1)", "image(0)", "image(1)",
            "restore(0)", "restore(1)");
        refused(Start.EMPTY, BAD, "change(0)", "cough(0)", "sleeper(0, 0)", "sheep(0, 0)", "counted(0, 0)", "when(0)",
            "sorts(0, 0, 0, 1)", "sorts(0, 5, 0, 1)", "sorts(0, 0, 3, 1)");
        refused(Start.EMPTY, BAD, "stay(0, 0, 0, 0)", "image(2)", "image(-1)", "restore(2)", "restore(-1)", "kind(0)", "as(0, 0)",
            "ask(0, 0)", "count(8)", "feed(256)");
        refused(Start.EMPTY, NONE, "trace(0)");
    }

    private static void refusedRows() {
        refused(Start.BUSY, BAD, "row(-1, 0, 1)", "row(8, 0, 1)", "row(MIN, 0, 1)", "row(MAX, 0, 1)", "row(0, -1, 1)", "row(0, 3, 1)",
            "row(0, 0, 41)", "row(4, 0, 41)", "row(0, 2, MAX)", "row(8, 0, -1)", "row(0, 3, -1)");
        refused(Start.BUSY, BAD, "set(-1, 0, 4)", "set(8, 0, 4)", "set(8, -1, 4)", "set(MAX, 0, 4)", "drop(-1)", "drop(8)", "drop(MIN)",
            "drop(MAX)");
        refused(Start.BUSY, BAD, "copy(-1, 0, 0, 0, 1)", "copy(8, 0, 0, 0, 1)", "copy(0, 0, -1, 0, 1)", "copy(0, 0, 8, 0, 1)",
            "copy(4, 0, 8, 0, 1)");
    }

    private static void foundRows() {
        found(Start.BUSY, SIZE, "row(0, 0, -1)", "row(1, 2, -1)", "row(4, 0, -1)", "row(0, 0, MIN)");
        found(Start.BUSY, NULL, "set(4, 0, 4)", "set(7, -1, 4)", "drop(4)", "drop(7)", "copy(4, 0, 0, 0, 1)", "copy(0, 0, 4, 0, 1)",
            "copy(0, 0, 7, 0, 9)", "copy(4, 0, 5, 0, 0)");
        found(Start.BUSY, STORE, "copy(0, 0, 1, 0, 1)", "copy(1, 1, 2, 0, 1)", "copy(2, 2, 0, 0, 1)", "copy(0, 0, 2, 0, 9)",
            "copy(0, 0, 3, 0, 0)");
        found(Start.BUSY, PLACE, "set(0, -1, 4)", "set(0, 3, 4)", "set(1, MIN, 4)", "set(2, MAX, 4)", "set(3, 0, 4)");
        found(Start.BUSY, PLACE, "copy(0, 0, 0, 1, 3)", "copy(0, 1, 0, 0, 3)", "copy(0, -1, 0, 0, 2)", "copy(0, 0, 0, -1, 2)",
            "copy(0, 2, 0, 0, -1)", "copy(2, 2, 3, 0, 1)", "copy(3, 0, 2, 0, 1)", "copy(0, 1, 0, 0, MAX)", "copy(0, 0, 0, MAX, 2)");
    }

    private static void refusedActs() {
        refused(Start.BUSY, BAD, "feed(-1)", "feed(256)", "feed(MIN)", "feed(MAX)", "steps(0)", "steps(25)", "steps(-1)", "steps(MIN)",
            "steps(MAX)");
        refused(Start.BUSY, BAD, "change(-1)", "change(6)", "change(MIN)", "change(MAX)", "wind(-1)", "wind(10)", "wind(MAX)",
            "cough(-1)", "cough(5)", "cough(MAX)");
        refused(Start.BUSY, BAD, "sleeper(-1, 0)", "sleeper(5, 0)", "sleeper(0, -1)", "sleeper(0, 5)", "sheep(-1, 0)", "sheep(6, 0)",
            "sheep(0, -1)", "sheep(0, 3)", "count(-1)", "count(8)");
        refused(Start.BUSY, BAD, "image(-1)", "image(2)", "image(MAX)", "restore(-1)", "restore(2)", "restore(MIN)");
        refused(Start.BUSY, STATE, "change(5)");
        refused(Start.NO_ACTS, STATE, "undo()", "change(5)");
        refused(Start.FIRST_IMAGE, STATE, "restore(1)");
        refused(Start.SECOND_IMAGE, STATE, "restore(0)");
        refused(Start.NO_ACTS, BAD, "change(6)", "wind(10)", "cough(5)", "steps(25)");
    }

    private static void refusedForetold() {
        refused(Start.BUSY, BAD, "off(-1)", "off(100)", "counted(-1, 0)", "counted(5, 0)", "counted(0, -1)", "counted(0, 100)",
            "when(-1)", "when(5)", "all(-1)", "all(32)", "quiet(-1)", "quiet(6)");
        refused(Start.BUSY, BAD, "order(-1, 0)", "order(32, 0)", "order(1, -2)", "order(1, 6)", "fewest(-1, 9, 0)", "fewest(32, 9, 0)",
            "fewest(1, -1, 0)", "fewest(1, 100, 0)", "fewest(1, 9, -1)", "fewest(1, 9, 2)");
        refused(Start.BUSY, BAD, "missing(-1, 0, 1)", "missing(8, 0, 1)", "missing(0, 0, 0)", "missing(0, 0, 17)", "windy(-1, 0, 1)",
            "windy(8, 0, 1)", "windy(0, 0, 0)", "windy(0, 0, 17)");
        refused(Start.BUSY, BAD, "sorts(-1, 0, 0, 1)", "sorts(5, 0, 0, 1)", "sorts(0, -1, 0, 1)", "sorts(0, 8, 0, 1)",
            "sorts(0, 0, 0, 0)", "sorts(0, 0, 0, 17)");
        refused(Start.BUSY, BAD, "stay(-1, 9, 5, 0)", "stay(5, 9, 5, 0)", "stay(0, -1, 5, 0)", "stay(0, 100, 5, 0)", "stay(0, 9, -1, 0)",
            "stay(0, 9, 11, 0)", "stay(0, 9, 5, -1)", "stay(0, 9, 5, 2)");
    }

    private static void foundForetold() {
        found(Start.BUSY, NULL, "missing(4, 0, 1)", "windy(4, 0, 1)", "sorts(0, 4, 0, 1)", "missing(7, -1, 16)", "windy(7, 99, 1)",
            "sorts(4, 7, -1, 1)");
        found(Start.BUSY, PLACE, "missing(0, 3, 1)", "windy(0, 3, 1)", "sorts(0, 0, 3, 1)", "missing(0, -1, 1)", "windy(0, -1, 1)",
            "sorts(0, 0, -1, 1)", "missing(0, 1, 3)", "windy(3, 0, 1)", "sorts(0, 0, MAX, 2)");
    }

    private static void refusedAsks() {
        refused(Start.BUSY, BAD, "kind(-1)", "kind(5)", "as(-1, 0)", "as(5, 0)", "as(0, -1)", "as(0, 6)", "ask(-1, 0)", "ask(5, 0)",
            "ask(0, -1)", "ask(0, 2)");
        refused(Start.BUSY, NONE, "trace(-1)", "trace(6)", "trace(16)", "trace(MAX)", "trace(MIN)");
        found(Start.BUSY, KIND, "as(0, 2)", "as(0, 4)", "as(1, 3)", "as(2, 2)", "as(3, 1)", "as(3, 5)", "as(4, 1)");
    }

    private static void full() {
        refused(Start.FULL_TAPE, FULL, "feed(0)", "feed(112)", "feed(255)");
        refused(Start.FULL_TAPE, BAD, "feed(-1)", "feed(256)");
        refused(Start.FULL_TAPE_AND_BUSY, FULL, "feed(0)", "feed(112)");
        refused(Start.FULL_TAPE_AND_BUSY, BAD, "feed(256)");
        refused(Start.LAST_STEP, FULL, "steps(7)", "steps(24)");
        refused(Start.LAST_STEP, BAD, "steps(0)", "steps(25)");
    }

    private static void toldOnly() {
        same(Start.BUSY, ANY, SAME_STATUS, "fault()", "sleeper(0, 0)", "sleeper(4, 4)", "sheep(0, 0)", "sheep(5, 2)", "kind(0)",
            "trace(0)", "count(0)", "count(7)", "status()");
        same(Start.BUSY, ANY, 0, "as(0, 0)", "as(1, 1)", "as(4, 4)", "copy(0, 0, 0, 0, 3)", "copy(3, 0, 2, 3, 0)", "set(0, 0, 257)");
    }

    private static void foretoldOnly() {
        same(Start.BUSY, ANY, SAME_STATUS, "off(0)", "off(99)", "counted(0, 99)", "counted(4, 9)", "when(0)", "when(3)", "all(0)",
            "all(31)", "never()", "quiet(0)", "quiet(5)");
        same(Start.BUSY, ANY, SAME_STATUS, "order(0, -1)", "order(31, -1)", "order(16, 5)", "fewest(0, 0, 0)", "fewest(31, 99, 1)",
            "fewest(16, 9, 0)", "stay(0, 99, 5, 0)", "stay(4, 9, 3, 1)");
        same(Start.BUSY, ANY, 0, "missing(0, 0, 1)", "missing(0, 0, 3)", "windy(0, 0, 1)", "windy(0, 0, 3)", "sorts(0, 0, 0, 1)",
            "sorts(4, 0, 0, 3)");
    }

    /** A FAULT empties the tape and is told by fault(): with the same bytes again, and the same number, nothing differs. */
    private static void faultyText() {
        for (Start how : new Start[] {Start.EMPTY, Start.BUSY, Start.NO_ACTS}) {
            List<String> wanted = everything(start(how, "the twin, " + how), how);
            Town x = start(how, "a faulty text, " + how).is(-1000104, "square()").is(2, "fault()", "status()").is(0, "count(7)")
                .feed("q1;f55");
            List<String> got = everything(x, how);
            for (int i = 0; i < Math.max(got.size(), wanted.size()); i++) due.holds("a faulty text, " + how + ": " + got.get(i), got.get(i)
                .equals(wanted.get(i)));
        }
    }

    /** Calls by which the twins themselves are looked at would spoil both alike: so all is told by hand here. */
    private static void byHand() {
        String[] calls = {"fault()", "status()", "trace(0)", "trace(9)", "kind(0)", "kind(2)", "off(0)", "off(100)", "windy(0, 0, 1)",
            "windy(8, 0, 1)",
            "ask(1, 1)", "ask(2, 0)", "count(6)", "count(8)", "sleeper(0, 2)", "sleeper(2, 0)", "sheep(0, 2)", "sheep(3, 0)",
                "set(0, 0, 1)", "set(8, 0, 0)",
            "drop(7)", "drop(8)", "restore(2)", "feed(256)"};
        for (String call : calls) {
            allIsAsTold(told(call + ", by hand").run(call), 2);
            imagesAreAsTold(told(call + ", by hand").run(call));
            rowsAreAsTold(told(call + ", by hand").run(call));
        }
        allIsAsTold(told("a byte that is fed, by hand").run("feed(59)"), 3);
        rowsAreAsTold(told("a byte that is fed, by hand").run("feed(59)"));
        Town x = told("undo() where no ACT can be undone, by hand").run("restore(1)").is(STATE, "undo()").is(0, "count(6)");
        x.is(3, "count(3)").is(2, "count(4)").is(1, "off(0)", "count(5)").are("trace(", 23, 20, 13, 10, NONE);
        rowsAreAsTold(x);
        x = new Town(due, "STATE of calls by which the twins are looked at, by hand").run("row(1, 1, 1)");
        x.is(STATE, "off(0)", "undo()", "restore(0)", "restore(1)").is(4464, "set(1, 0, 70000)").is(1, "count(0)");
        x.reads("q0;f1,0;p1,0;d1,0;t1,0;n1,0;l1,0;").is(0, "fault()").are("kind(", 1, 2, 3, 4, 5).is(STATE, "restore(0)")
            .are("kind(", 1, 2, 3, 4, 5);
    }

    private static Town told(String sentence) {
        Town x = new Town(due, sentence).feed("q10;").run("square()").reads("q3;f1,0;f9,2;f4,1;p2,0;n3,1;")
            .run("steps(3)", "change(0)", "image(0)");
        x.run("wind(2)", "image(1)", "cough(1)", "ask(1, 1)", "row(0, 0, 1)", "set(0, 0, 1)", "row(1, 1, 1)", "row(3, 2, 0)");
        return x.feed("q1");
    }

    private static void allIsAsTold(Town x, int bytes) {
        x.are("trace(", 23, 20, 13, 10, NONE).are("count(", 3, 3, 2, 3, 2, 1, 6, bytes).is(2, "fault()").is(1, "off(0)");
        x.are("sleeper(0, ", 2, 0, 3, 1, 7).are("sleeper(1, ", 3, 1, 0, 0, 6).are("kind(", 1, 4, BAD);
        x.are("sheep(0, ", 1, 0, 1).are("sheep(1, ", 9, 2, 0).are("sheep(2, ", 4, 1, 2).is(-1000100 - bytes, "square()");
        x.is(5, "undo()").is(1, "sleeper(1, 2)").is(4, "undo()").is(3, "count(4)").is(3, "undo()").is(0, "sheep(0, 2)")
            .is(2, "undo()", "count(3)");
    }

    private static void imagesAreAsTold(Town x) {
        x.is(1, "restore(0)").are("count(", 3, 3, 2, 3, 3, 1, 0).is(1, "sleeper(1, 2)").is(1, "sheep(0, 2)");
        x.is(1, "restore(1)").are("count(", 3, 3, 2, 3, 2, 1, 0).is(1, "sleeper(1, 2)").is(1, "sheep(0, 2)");
    }

    private static void rowsAreAsTold(Town x) {
        x.is(1023, "windy(0, 0, 1)").is(0, "windy(1, 0, 1)").is(PLACE, "set(3, 0, 0)").is(112, "set(0, 0, 70000)")
            .is(4464, "set(1, 0, 70000)");
        x.is(1, "drop(0)", "drop(1)").is(NULL, "drop(2)").is(0, "drop(3)").is(NULL, "drop(4)", "drop(7)");
    }
}
