/** Promises 16 to 27: what is foretold. */
final class ForetoldTest {
    private static final int NONE = SheepSquare.NONE, BAD = SheepSquare.BAD, STATE = SheepSquare.STATE;
    private static final int NULL = -1000011, PLACE = -1000012;
    private static final Due due = new Due("ForetoldTest");

    public static void main(String[] args) {
        noSquare();
        wrongNumbers();
        offAndCounted();
        whenAndAllAndNever();
        lastOfAll();
        quiet();
        order();
        fewest();
        missing();
        windy();
        sorts();
        stay();
        nothingChanges();
        due.end();
    }

    private static void noSquare() {
        SheepSquare x = new SheepSquare();
        due.is("off(-1)", x.off(-1), STATE);
        due.is("counted(0, 0)", x.counted(0, 0), BAD);
        due.is("when(0)", x.when(0), BAD);
        due.is("all(1)", x.all(1), STATE);
        due.is("never()", x.never(), STATE);
        due.is("quiet(6)", x.quiet(6), STATE);
        due.is("order(1, 6)", x.order(1, 6), STATE);
        due.is("fewest(1, 100, 2)", x.fewest(1, 100, 2), STATE);
        due.is("missing(8, 0, 0)", x.missing(8, 0, 0), STATE);
        due.is("windy(8, 0, 0)", x.windy(8, 0, 0), STATE);
        due.is("sorts(0, 0, 0, 1)", x.sorts(0, 0, 0, 1), BAD);
        due.is("stay(0, 0, 0, 0)", x.stay(0, 0, 0, 0), BAD);
    }

    private static void wrongNumbers() {
        SheepSquare x = Due.town("q0;f1,0;f1,1;p1,0;p1,0;");
        int[] far = {-1, 100, Integer.MIN_VALUE, Integer.MAX_VALUE};
        for (int d : far) {
            due.is("off(" + d + ")", x.off(d), BAD);
            due.is("counted(0, " + d + ")", x.counted(0, d), BAD);
            due.is("fewest(0, " + d + ", 0)", x.fewest(0, d, 0), BAD);
            due.is("stay(0, " + d + ", 0, 0)", x.stay(0, d, 0, 0), BAD);
            due.is("all(" + d + ")", x.all(d), BAD);
            due.is("quiet(" + d + ")", x.quiet(d), BAD);
        }
        int[] nobody = {-1, 2, 5, Integer.MAX_VALUE};
        for (int s : nobody) {
            due.is("counted(" + s + ", 0)", x.counted(s, 0), BAD);
            due.is("when(" + s + ")", x.when(s), BAD);
            due.is("stay(" + s + ", 0, 0, 0)", x.stay(s, 0, 0, 0), BAD);
            due.is("sorts(" + s + ", 0, 0, 1)", x.sorts(s, 0, 0, 1), BAD);
        }
        due.is("all(4)", x.all(4), BAD);
        due.is("all(3)", x.all(3), 1);
        due.is("quiet(6)", x.quiet(6), BAD);
        due.is("quiet(5)", x.quiet(5), NONE);
        due.is("order(4, 0)", x.order(4, 0), BAD);
        due.is("order(-1, 0)", x.order(-1, 0), BAD);
        due.is("order(0, -2)", x.order(0, -2), BAD);
        due.is("order(0, 6)", x.order(0, 6), BAD);
        due.is("order(0, 5)", x.order(0, 5), NONE);
        due.is("order(0, 2)", x.order(0, 2), NONE);
        due.is("order(0, 1)", x.order(0, 1), 1);
        due.is("fewest(4, 0, 0)", x.fewest(4, 0, 0), BAD);
        due.is("fewest(-1, 0, 0)", x.fewest(-1, 0, 0), BAD);
        due.is("fewest(0, 0, -1)", x.fewest(0, 0, -1), BAD);
        due.is("fewest(0, 0, 2)", x.fewest(0, 0, 2), BAD);
        due.is("stay(0, 0, -1, 0)", x.stay(0, 0, -1, 0), BAD);
        due.is("stay(0, 0, 11, 0)", x.stay(0, 0, 11, 0), BAD);
        due.is("stay(0, 0, 0, -1)", x.stay(0, 0, 0, -1), BAD);
        due.is("stay(0, 0, 0, 2)", x.stay(0, 0, 0, 2), BAD);
        wrongRows(x);
    }

    private static void wrongRows(SheepSquare x) {
        int[] wrongN = {-1, 0, 17, Integer.MAX_VALUE};
        for (int n : wrongN) {
            due.is("missing(0, 0, " + n + ")", x.missing(0, 0, n), BAD);
            due.is("windy(0, 0, " + n + ")", x.windy(0, 0, n), BAD);
            due.is("sorts(0, 0, 0, " + n + ")", x.sorts(0, 0, 0, n), BAD);
        }
        int[] wrongRow = {-1, 8};
        for (int row : wrongRow) {
            due.is("missing(" + row + ", 0, 1)", x.missing(row, 0, 1), BAD);
            due.is("windy(" + row + ", 0, 1)", x.windy(row, 0, 1), BAD);
            due.is("sorts(0, " + row + ", 0, 1)", x.sorts(0, row, 0, 1), BAD);
        }
        due.is("missing NULL", x.missing(1, -1, 1), NULL);
        due.is("windy NULL", x.windy(1, -1, 1), NULL);
        due.is("sorts NULL", x.sorts(0, 1, -1, 1), NULL);
        x.row(1, 0, 16);
        int[] wrongPlace = {-1, 16, 14, Integer.MIN_VALUE, Integer.MAX_VALUE};
        for (int i : wrongPlace) {
            due.is("missing(1, " + i + ", 3)", x.missing(1, i, 3), PLACE);
            due.is("windy(1, " + i + ", 3)", x.windy(1, i, 3), PLACE);
            due.is("sorts(0, 1, " + i + ", 3)", x.sorts(0, 1, i, 3), PLACE);
        }
        for (int i = 0; i < 16; i++) x.set(1, i, 2);
        due.is("missing of 16", x.missing(1, 0, 16), 3);
        due.is("windy of 16", x.windy(1, 0, 16), 1023);
        due.is("sorts of 16", x.sorts(1, 1, 0, 16), 62);
    }

    private static void offAndCounted() {
        SheepSquare x = Due.town("q5;f5,0;f6,3;f9,1;p3,0;d3,1;l2,0;");
        int[] plain = {0, 1, 2, 3, 4, 5, 6}, deep = {0, 0, 1, 2, 2, 3, 4}, light = {0, 1, 0, 1, 2, 0, 1};
        due.is("off(0)", x.off(0), 0);
        for (int d = 0; d < plain.length; d++) {
            due.is("counted(0, " + d + ")", x.counted(0, d), plain[d]);
            due.is("counted(1, " + d + ")", x.counted(1, d), deep[d]);
            due.is("counted(2, " + d + ")", x.counted(2, d), light[d]);
        }
        due.is("off(3)", x.off(3), 1);
        due.is("off(4)", x.off(4), 5);
        due.is("off(5)", x.off(5), 3);
        due.is("off(7)", x.off(7), 7);
        due.is("off(8)", x.off(8), 3);
        due.is("off(99)", x.off(99), 3);
        due.is("counted(0, 99)", x.counted(0, 99), 99);
        x.steps(1);
        due.is("from now on, off(3)", x.off(3), 5);
        due.is("from now on, counted(0, 99)", x.counted(0, 99), 99);
        due.is("from now on, counted(2, 3)", x.counted(2, 3), 2);
        due.is("as it goes", x.steps(3), 5);
    }

    private static void whenAndAllAndNever() {
        SheepSquare x = Due.town("q5;f6,0;f6,2;f6,1;f5,1;p7,1;l1,0;l3,0;n4,0;n4,1;");
        due.is("when(0)", x.when(0), 9);
        due.is("when(1)", x.when(1), 1);
        due.is("when(2)", x.when(2), 5);
        due.is("when(3)", x.when(3), NONE);
        due.is("never()", x.never(), 24);
        due.is("all(0)", x.all(0), 0);
        due.is("all(1)", x.all(1), 9);
        due.is("all(6)", x.all(6), 5);
        due.is("all(7)", x.all(7), 9);
        due.is("all(8)", x.all(8), NONE);
        due.is("all(31)", x.all(31), NONE);
        x.steps(5);
        due.is("now", x.when(2), 0);
        due.is("now, all(6)", x.all(6), 0);
        due.is("later, all(7)", x.all(7), 4);
        x.wind(6);
        due.is("too windy", x.when(0), NONE);
        due.is("never then", x.never(), 25);
        SheepSquare y = Due.town("q0;f1,0;f1,3;l1,0;t1,0;l2,0;");
        due.is("at once", y.all(3), 1);
        y.steps(1);
        due.is("off now, woken behind", y.never(), 4);
        due.is("now, at once", y.all(3), 0);
        SheepSquare z = Due.town("q0;f1,0;");
        due.is("nobody, never", z.never(), 0);
        due.is("nobody, all(0)", z.all(0), 0);
        due.is("nobody, all(1)", z.all(1), BAD);
        due.is("nobody, off", z.off(99), 0);
        due.is("nobody, quiet(0)", z.quiet(0), 0);
        due.is("nobody, quiet(1)", z.quiet(1), NONE);
    }

    /** 5 sheep, one of them heard: the 20th time is behind 96 STEPS, or 99, or 100. */
    private static void lastOfAll() {
        SheepSquare x = Due.town("q0;f1,0;f0,0;f0,0;f0,0;f0,0;p20,1;");
        due.is("behind 96", x.when(0), 96);
        due.is("all", x.all(1), 96);
        x.steps(1);
        x.undo();
        x.change(0);
        x.change(1);
        x.change(2);
        due.is("behind 99", x.when(0), 99);
        due.is("not never", x.never(), 0);
        due.is("quiet behind 99", x.quiet(1), 99);
        due.is("order", x.order(1, -1), 96);
        due.is("fewest, 99", x.fewest(1, 99, 0), 1);
        x.change(3);
        due.is("behind 100", x.when(0), NONE);
        due.is("all behind 100", x.all(1), NONE);
        due.is("never", x.never(), 1);
        due.is("quiet behind 100", x.quiet(1), NONE);
    }

    private static void quiet() {
        SheepSquare x = Due.town("q0;f1,0;f1,1;f1,1;f1,1;f1,1;f1,2;l1,0;p9,0;d11,0;");
        due.is("quiet(0)", x.quiet(0), 0);
        due.is("a bell each 6", x.quiet(1), 7);
        due.is("two", x.quiet(2), 8);
        due.is("three, 5 of 6", x.quiet(3), NONE);
        due.is("more than there are", x.quiet(4), NONE);
        SheepSquare y = Due.town("q0;f1,0;f1,2;t3,0;l1,0;");
        due.is("others take turns", y.quiet(1), 5);
        y.steps(5);
        due.is("now", y.quiet(1), 0);
        due.is("both never stay", y.quiet(2), NONE);
        SheepSquare z = Due.town("q0;f1,0;f9,3;f1,0;f1,0;f1,0;f1,0;l1,1;");
        z.steps(1);
        z.wind(5);
        z.change(0);
        due.is("off behind 5", z.off(5), 1);
        due.is("woken behind 6", z.off(6), 0);
        due.is("so not quiet", z.quiet(1), NONE);
    }

    private static void order() {
        SheepSquare x = Due.town("q5;f9,3;f1,0;f9,1;f9,0;l2,1;d9,0;");
        due.is("as it is", x.all(1), 4);
        due.is("behind 2", x.order(1, -1), 2);
        int[] soonest = {2, 3, 0, 1};
        for (int k = 0; k < 4; k++) due.is("order(1, " + k + ")", x.order(1, k), soonest[k]);
        due.is("no such one", x.order(1, 4), NONE);
        due.is("deep: as told in rows of numbers", x.order(2, -1), 6);
        due.is("both", x.order(3, -1), 6);
        x.steps(1);
        int[] later = {0, 2, 3, 1};
        due.is("from STEP 1 on, behind 2", x.order(1, -1), 2);
        for (int k = 0; k < 4; k++) due.is("from STEP 1 on, order(1, " + k + ")", x.order(1, k), later[k]);
        SheepSquare y = Due.town("q0;f1,2;f1,3;n1,0;l1,0;");
        due.is("by none", y.order(1, -1), NONE);
        due.is("by none, which", y.order(2, 0), NONE);
        due.is("told none", y.order(0, -1), 0);
        y.change(0);
        due.is("told none, by numbers", y.order(0, 0), 0);
        due.is("told none, by numbers, last", y.order(0, 1), 1);
        SheepSquare six = Due.town("q5;f9,3;f1,0;f1,0;f9,0;f9,0;f9,0;l3,1;l4,1;");
        int[] loudFirst = {3, 4, 5, 0, 1, 2};
        due.is("of six, behind 3", six.order(1, -1), 3);
        for (int k = 0; k < 6; k++) due.is("of six, order(1, " + k + ")", six.order(1, k), loudFirst[k]);
        due.is("of six, by none", six.order(2, -1), NONE);
        due.is("of six, by none, too", six.order(3, 5), NONE);
    }

    private static void fewest() {
        SheepSquare x = Due.town("q5;f9,3;f1,0;f9,1;l2,1;p4,0;d6,1;");
        due.is("the third alone", x.fewest(1, 2, 1), 4);
        due.is("one", x.fewest(1, 2, 0), 1);
        due.is("too soon", x.fewest(1, 1, 0), NONE);
        due.is("too soon, which", x.fewest(1, 1, 1), NONE);
        due.is("any one", x.fewest(2, 4, 1), 1);
        due.is("told none", x.fewest(0, 0, 1), 1);
        due.is("told none, how many", x.fewest(0, 0, 0), 1);
        SheepSquare y = Due.town("q5;f9,0;f9,2;t2,0;l1,0;n3,0;d5,0;");
        due.is("two of two", y.fewest(8, 3, 0), 1);
        y.steps(1);
        due.is("now", y.fewest(2, 0, 1), 1);
        SheepSquare z = Due.town("q5;f9,0;f9,2;f9,1;t2,0;l1,0;d8,1;");
        z.steps(2);
        due.is("of three, behind STEP 2", z.fewest(3, 1, 1), 1);
        due.is("of three, deep", z.fewest(7, 2, 0), 1);
        SheepSquare w = Due.town("q0;f9,2;f9,1;f9,0;n1,0;d4,0;");
        due.is("both in 2, which", w.fewest(3, 2, 1), 4);
        w.cough(0);
        due.is("white one alone", w.fewest(2, 2, 1), 1);
        SheepSquare six = Due.town("q8;f1,1;f1,1;f1,1;f1,1;f1,1;f9,3;l5,0;p1,1;l4,0;");
        due.is("all six", six.fewest(3, 11, 0), 6);
        due.is("all six, which", six.fewest(3, 11, 1), 63);
        due.is("all six, too soon", six.fewest(3, 10, 0), NONE);
        due.is("five", six.fewest(6, 9, 0), 5);
        due.is("five, of several the least", six.fewest(6, 9, 1), 47);
        due.is("five, too soon", six.fewest(6, 8, 1), NONE);
    }

    private static void told(SheepSquare x, int... items) {
        x.row(0, 0, items.length);
        for (int i = 0; i < items.length; i++) x.set(0, i, items[i]);
    }

    private static void missing() {
        SheepSquare x = Due.town("q0;f1,0;f1,1;f1,2;d3,0;t3,0;");
        told(x, 0, 1, 1, 2, 2);
        due.is("without the white ones, or the bell", x.missing(0, 0, 5), 0);
        told(x, 0, 1, 2, 2);
        due.is("without the bell", x.missing(0, 0, 4), 4);
        told(x, 0, 1, 1, 1, 2);
        due.is("without one", x.missing(0, 0, 5), 3);
        due.is("from a place on", x.missing(0, 4, 1), 0);
        due.is("from a place on, 0 first", x.missing(0, 0, 1), 7);
        x.steps(1);
        told(x, 1, 1, 1, 2);
        due.is("from STEP 1 on, the rest by two", x.missing(0, 0, 4), 3);
        told(x, 1, 2);
        due.is("from STEP 1 on, without the bell", x.missing(0, 0, 2), 4);
        told(x, -128, 0);
        due.is("what cannot be", x.missing(0, 0, 2), 0);
        SheepSquare one = Due.town("q0;f1,0;p9,0;");
        told(one, 0);
        due.is("of one sheep", one.missing(0, 0, 1), 0);
        due.is("of one sheep, PLACE", one.missing(0, 0, 2), PLACE);
    }

    private static void windy() {
        SheepSquare x = Due.town("q9;f3,0;f6,1;p2,1;p9,0;");
        told(x, 0, 1, 1);
        due.is("below 3", x.windy(0, 0, 3), 7);
        told(x, 0, 0, 0, 1);
        due.is("3 to 5", x.windy(0, 0, 4), 56);
        told(x, 0, 0, 0, 0);
        due.is("6 and more", x.windy(0, 0, 4), 960);
        due.is("wind stays", x.count(4), 9);
        due.is("sleeper hears yet", x.sleeper(0, 4), 0);
    }

    private static void sorts() {
        SheepSquare x = Due.town("q0;f1,0;f1,1;f1,3;p3,0;p60,0;");
        told(x, 0, 1, 1, 1);
        due.is("deep", x.sorts(0, 0, 0, 4), 4);
        told(x, 0, 0, 1, 1);
        due.is("plain", x.sorts(0, 0, 0, 4), 2);
        told(x, 0, 0, 0, 1);
        due.is("tea", x.sorts(0, 0, 0, 4), 8);
        told(x, 0, 0, 0, 0);
        due.is("nervous, light", x.sorts(0, 0, 0, 4), 48);
        due.is("of the other none", x.sorts(1, 0, 0, 4), 0);
        told(x, 0, 0, 1, 1);
        due.is("of the other all", x.sorts(1, 0, 0, 4), 62);
        x.steps(3);
        told(x, 1, 1, 0);
        due.is("off now, a light one is woken", x.sorts(0, 0, 0, 3), 32);
        due.is("kind stays", x.kind(0), 1);
    }

    private static void fraction(SheepSquare x, int sleeper, int d, int c, int above, int below) {
        String call = "stay(" + sleeper + ", " + d + ", " + c + ", ";
        due.is(call + "0)", x.stay(sleeper, d, c, 0), above);
        due.is(call + "1)", x.stay(sleeper, d, c, 1), below);
    }

    private static void stay() {
        SheepSquare x = Due.town("q5;f9,0;f1,1;f9,3;p2,1;l2,0;p60,0;");
        fraction(x, 0, 1, 3, 0, 1);
        fraction(x, 0, 2, 3, 3, 10);
        fraction(x, 0, 3, 3, 1, 1);
        fraction(x, 0, 4, 5, 1, 1);
        fraction(x, 0, 2, 0, 0, 1);
        fraction(x, 0, 2, 10, 1, 1);
        fraction(x, 0, 3, 0, 1, 1);
        fraction(x, 1, 2, 2, 21, 25);
        fraction(x, 1, 2, 5, 3, 4);
        fraction(x, 2, 59, 5, 0, 1);
        fraction(x, 2, 60, 5, 1, 1);
        x.change(0);
        fraction(x, 0, 1, 3, 0, 1);
        fraction(x, 0, 2, 3, 0, 1);
        fraction(x, 0, 3, 3, 49, 100);
        x.steps(1);
        fraction(x, 0, 2, 1, 81, 100);
        SheepSquare one = Due.town("q5;f9,0;p2,1;");
        fraction(one, 0, 1, 9, 0, 1);
        fraction(one, 0, 2, 9, 1, 1);
        SheepSquare six = Due.town("q0;f1,0;f1,2;f1,2;f1,2;f1,2;f1,2;n6,0;");
        fraction(six, 0, 6, 3, 243, 100000);
        fraction(six, 0, 6, 10, 1, 1);
        fraction(six, 0, 6, 0, 0, 1);
    }

    private static void nothingChanges() {
        SheepSquare x = Due.town("q4;f5,0;f2,1;f9,2;f4,3;f7,1;p9,0;d9,1;t6,0;n4,1;l3,0;");
        x.steps(3);
        x.change(1);
        x.row(0, 0, 4);
        for (int k = -1; k < 6; k++) x.order(16, k);
        x.fewest(7, 30, 1);
        x.missing(0, 0, 4);
        x.windy(0, 0, 4);
        x.sorts(2, 0, 0, 4);
        x.stay(1, 30, 5, 0);
        x.never();
        x.quiet(2);
        x.all(3);
        x.when(4);
        x.counted(1, 30);
        x.off(77);
        int[] counted = {3, 4, 2, 0, 0}, places = {0, 2, 1, 3, 4}, counts = {1, 5, 5, 3, 4, 0, 4, 0};
        for (int i = 0; i < 5; i++) {
            due.is("counted by " + i + " stays", x.sleeper(i, 2), counted[i]);
            due.is("place of " + i + " stays", x.sheep(i, 2), places[i]);
            due.is("kind of " + i + " stays", x.kind(i), i + 1);
        }
        for (int what = 0; what < 8; what++) due.is("count(" + what + ") stays", x.count(what), counts[what]);
    }
}
