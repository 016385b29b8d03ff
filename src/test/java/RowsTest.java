/** Promises 1 to 5, 35: a new object, ROWS, status. */
final class RowsTest {
    private static final int BAD = SheepSquare.BAD;
    private static final int NULL = -1000011, PLACE = -1000012, SIZE = -1000014, STORE = -1000015;
    private static final Due due = new Due("RowsTest");

    public static void main(String[] args) {
        aNewObject();
        row();
        set();
        copy();
        copyOverItself();
        drop();
        status();
        due.end();
    }

    private static void aNewObject() {
        SheepSquare x = new SheepSquare();
        for (int what = 0; what < 8; what++) due.is("new count(" + what + ")", x.count(what), 0);
        due.is("new fault()", x.fault(), 0);
        due.is("new status()", x.status(), 0);
        due.is("new trace(0)", x.trace(0), SheepSquare.NONE);
        due.is("new off(0)", x.off(0), SheepSquare.STATE);
        due.is("new restore(1)", x.restore(1), SheepSquare.STATE);
        for (int row = 0; row < 8; row++) due.is("new drop(" + row + ")", x.drop(row), NULL);
    }

    private static void row() {
        SheepSquare x = new SheepSquare();
        due.is("row -1", x.row(-1, 0, 1), BAD);
        due.is("row 8", x.row(8, 0, 1), BAD);
        due.is("row 8, SIZE too", x.row(8, 0, -1), BAD);
        due.is("lane -1", x.row(0, -1, 1), BAD);
        due.is("lane 3", x.row(0, 3, 1), BAD);
        due.is("lane 3, SIZE too", x.row(0, 3, -1), BAD);
        due.is("41 items", x.row(0, 0, 41), BAD);
        due.is("least size", x.row(0, 0, Integer.MIN_VALUE), SIZE);
        due.is("none is there yet", x.count(0), 0);
        due.is("0 items", x.row(0, 0, 0), 0);
        due.is("no place in it", x.set(0, 0, 1), PLACE);
        due.is("40 items", x.row(7, 2, 40), 40);
        due.is("two rows", x.count(0), 2);
        due.is("last item", x.set(7, 39, 5), 5);
        due.is("found, stays", x.row(7, 0, -1), SIZE);
        due.is("bad, stays", x.row(7, 0, 41), BAD);
        due.is("it is still of ints", x.set(7, 39, 100000), 100000);
        due.is("in its place", x.row(7, 1, 3), 3);
        due.is("it is of shorts now", x.set(7, 2, 100000), (short) 100000);
        due.is("it is shorter now", x.set(7, 3, 1), PLACE);
        due.is("two rows yet", x.count(0), 2);
    }

    private static void set() {
        SheepSquare x = new SheepSquare();
        due.is("set row -1", x.set(-1, 0, 0), BAD);
        due.is("set row 8", x.set(8, 0, 0), BAD);
        due.is("set missing", x.set(3, -1, 0), NULL);
        x.row(0, 0, 2);
        x.row(1, 1, 2);
        x.row(2, 2, 2);
        int[] values = {0, 1, -1, 127, 128, 255, 256, -129, 32767, 32768, 65535, 65536, Integer.MAX_VALUE, Integer.MIN_VALUE};
        for (int v : values) {
            due.is("byte " + v, x.set(0, 1, v), (byte) v);
            due.is("short " + v, x.set(1, 1, v), (short) v);
            due.is("int " + v, x.set(2, 1, v), v);
        }
        due.is("place -1", x.set(0, -1, 0), PLACE);
        due.is("place 2", x.set(0, 2, 0), PLACE);
        due.is("place far", x.set(0, Integer.MAX_VALUE, 0), PLACE);
    }

    private static void copy() {
        SheepSquare x = new SheepSquare();
        due.is("copy from row 8", x.copy(8, 0, 0, 0, 0), BAD);
        due.is("copy to row -1", x.copy(0, 0, -1, 0, 0), BAD);
        x.row(0, 0, 4);
        x.row(1, 0, 3);
        x.row(2, 1, 3);
        due.is("from missing", x.copy(5, 0, 0, 0, 1), NULL);
        due.is("to missing", x.copy(0, 9, 5, 0, -1), NULL);
        due.is("store ahead of place", x.copy(0, 9, 2, 9, -1), STORE);
        due.is("store of none", x.copy(0, 0, 2, 0, 0), STORE);
        due.is("i below", x.copy(0, -1, 1, 0, 1), PLACE);
        due.is("j below", x.copy(0, 0, 1, -1, 1), PLACE);
        due.is("n below", x.copy(0, 0, 1, 0, -1), PLACE);
        due.is("i beyond", x.copy(0, 2, 1, 0, 3), PLACE);
        due.is("j beyond", x.copy(0, 0, 1, 1, 3), PLACE);
        due.is("sum wraps, i", x.copy(0, Integer.MAX_VALUE, 1, 0, 2), PLACE);
        due.is("sum wraps, n", x.copy(0, 1, 1, 1, Integer.MAX_VALUE), PLACE);
        due.is("none at the ends", x.copy(0, 4, 1, 3, 0), 0);
        due.is("none beyond an end", x.copy(0, 5, 1, 0, 0), PLACE);
        due.is("all that fits", x.copy(0, 1, 1, 0, 3), 3);
    }

    /** No call tells an ITEM, so windy() does: here 1 to 5 are OFF behind 1 to 5 STEPS, whatever the wind. */
    private static void copyOverItself() {
        SheepSquare x = Due.town("q0;f1,0;p1,0;p2,0;p3,0;p4,0;p5,0;");
        x.row(0, 2, 8);
        int[] told = {1, 2, 3, 4, 5, 5, 5, 9};
        for (int i = 0; i < 8; i++) x.set(0, i, told[i]);
        due.is("as set", x.windy(0, 0, 7), 1023);
        due.is("onwards", x.copy(0, 0, 0, 1, 6), 6);
        due.is("first stays, rest as ahead", x.windy(0, 1, 6), 1023);
        due.is("first stays", x.windy(0, 0, 1), 1023);
        due.is("first twice", x.windy(0, 0, 2), 0);
        due.is("back", x.copy(0, 1, 0, 0, 6), 6);
        due.is("back again", x.windy(0, 0, 6), 1023);
        x.row(1, 2, 3);
        due.is("new items are 0", x.windy(1, 0, 1), 0);
        due.is("to another", x.copy(0, 0, 1, 1, 2), 2);
        due.is("came there", x.windy(1, 1, 2), 1023);
        x.row(1, 2, 3);
        due.is("0 at first again", x.windy(1, 1, 2), 0);
        x.row(0, 2, 8);
        due.is("the first item, too", x.windy(0, 0, 1), 0);
    }

    private static void drop() {
        SheepSquare x = new SheepSquare();
        due.is("drop -1", x.drop(-1), BAD);
        due.is("drop 8", x.drop(8), BAD);
        due.is("drop missing", x.drop(7), NULL);
        x.row(7, 1, 17);
        x.row(6, 1, 0);
        due.is("drop 17", x.drop(7), 17);
        due.is("drop of none", x.drop(6), 0);
        due.is("none", x.count(0), 0);
        due.is("set dropped", x.set(7, 0, 0), NULL);
        due.is("drop again", x.drop(7), NULL);
    }

    private static void status() {
        SheepSquare x = Due.town("q0;f1,0;p9,0;n9,0;");
        x.drop(0);
        due.is("NULL", x.status(), 1);
        due.is("status changes nothing", x.status(), 1);
        x.row(9, 0, 0);
        x.as(0, 6);
        x.missing(0, 0, 0);
        x.steps(1);
        due.is("BAD and other calls leave it", x.status(), 1);
        x.row(0, 0, 2);
        due.is("none", x.status(), 0);
        x.set(0, 2, 0);
        due.is("PLACE", x.status(), 2);
        x.as(1, 1);
        due.is("KIND", x.status(), 3);
        x.as(1, 4);
        due.is("as has none", x.status(), 0);
        x.row(1, 0, -5);
        due.is("SIZE", x.status(), 4);
        x.windy(0, 0, 1);
        due.is("windy has none", x.status(), 0);
        x.row(1, 1, 2);
        x.copy(0, 0, 1, 0, 0);
        due.is("STORE", x.status(), 5);
        x.sorts(0, 0, 0, 1);
        due.is("sorts has none", x.status(), 0);
        x.sorts(0, 0, 2, 1);
        due.is("sorts PLACE", x.status(), 2);
        x.missing(0, 0, 1);
        due.is("missing has none", x.status(), 0);
        x.missing(5, 0, 1);
        due.is("missing NULL", x.status(), 1);
        x.set(0, 0, 3);
        due.is("set has none", x.status(), 0);
        x.drop(5);
        x.drop(0);
        due.is("drop has none", x.status(), 0);
        x.drop(0);
        Due.read(x, "q0;f1,0;");
        due.is("a new square leaves it", x.status(), 1);
        SheepSquare y = new SheepSquare();
        y.drop(0);
        y.missing(0, 0, 1);
        due.is("STATE leaves it", y.status(), 1);
    }
}
