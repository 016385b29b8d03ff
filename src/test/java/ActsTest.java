/** Promises 9 to 13, 28, 29, 34: STEPS and other ACTS, undone; IMAGES; count. */
final class ActsTest {
    private static final int BAD = SheepSquare.BAD, STATE = SheepSquare.STATE;
    private static final Due due = new Due("ActsTest");

    public static void main(String[] args) {
        noSquare();
        steps();
        kindsByCoats();
        lightAndNervousAndBells();
        atMost99();
        change();
        wind();
        cough();
        undo();
        oldestIsForgotten();
        full();
        images();
        count();
        due.end();
    }

    private static void noSquare() {
        SheepSquare x = new SheepSquare();
        due.is("steps(0) STATE ahead of BAD", x.steps(0), STATE);
        due.is("wind(10) STATE ahead of BAD", x.wind(10), STATE);
        due.is("change(0)", x.change(0), BAD);
        due.is("cough(0)", x.cough(0), BAD);
        due.is("undo()", x.undo(), STATE);
        due.is("image(-1)", x.image(-1), BAD);
        due.is("image(1)", x.image(1), STATE);
        due.is("restore(-1)", x.restore(-1), BAD);
        due.is("restore(1)", x.restore(1), STATE);
    }

    private static void counted(SheepSquare x, int... want) {
        for (int i = 0; i < want.length; i++) due.is("counted by " + i, x.sleeper(i, 2), want[i]);
    }

    private static void steps() {
        SheepSquare x = Due.town("q5;f5,0;f6,1;p3,0;p2,1;");
        due.is("steps(0)", x.steps(0), BAD);
        due.is("steps(25)", x.steps(25), BAD);
        due.is("steps(-1)", x.steps(-1), BAD);
        due.is("nothing went by", x.count(3), 0);
        due.is("steps(2)", x.steps(2), 0);
        counted(x, 2, 1);
        due.is("steps(1)", x.steps(1), 1);
        counted(x, 3, 1);
        due.is("steps(1), round and round", x.steps(1), 3);
        counted(x, 4, 2);
        due.is("STEP", x.count(3), 4);
        due.is("who is off, asked of him", x.sleeper(1, 3), 1);
    }

    private static void kindsByCoats() {
        SheepSquare x = Due.town("q0;f1,0;f1,1;f1,2;f1,3;p60,0;d60,0;t60,0;n60,0;l60,0;");
        x.steps(1);
        counted(x, 1, 2, 1, 1, 1);
        x.steps(1);
        counted(x, 2, 3, 2, 2, 2);
        x.steps(1);
        counted(x, 3, 5, 2, 0, 0);
        x.steps(1);
        counted(x, 4, 6, 2, 0, 0);
        x.steps(1);
        counted(x, 5, 8, 3, 1, 1);
    }

    private static void lightAndNervousAndBells() {
        SheepSquare x = Due.town("q0;f1,0;f1,1;f1,3;n2,0;l2,0;l2,1;");
        due.is("all off", x.steps(2), 7);
        due.is("a bell wakes light ones alone", x.steps(1), 1);
        counted(x, 0, 0, 0);
        due.is("the nervous one stays off", x.steps(1), 1);
        due.is("and off again", x.steps(1), 7);
        x.wind(1);
        due.is("a far one hears no bell now", x.steps(1), 5);
        counted(x, 0, 0, 2);
    }

    private static void atMost99() {
        SheepSquare x = Due.town("q0;f1,0;p60,0;d60,0;");
        x.steps(24);
        x.steps(24);
        counted(x, 48, 96);
        x.steps(1);
        counted(x, 49, 98);
        x.steps(1);
        counted(x, 50, 99);
        for (int i = 0; i < 3; i++) x.steps(24);
        counted(x, 99, 99);
    }

    private static void change() {
        SheepSquare x = Due.town("q0;f1,0;f2,1;f3,2;p60,0;");
        due.is("change(-1)", x.change(-1), BAD);
        due.is("change(3)", x.change(3), BAD);
        due.is("change(2)", x.change(2), STATE);
        due.is("no act yet", x.count(6), 0);
        due.is("change(0)", x.change(0), 1);
        due.is("change(1)", x.change(1), 2);
        int[] places = {2, 0, 1};
        for (int i = 0; i < 3; i++) due.is("place of " + i, x.sheep(i, 2), places[i]);
        due.is("acts", x.count(6), 2);
        SheepSquare one = Due.town("q0;f1,0;");
        due.is("of one sheep", one.change(0), STATE);
        SheepSquare y = Due.town("q0;f1,1;f1,0;d60,0;");
        y.change(0);
        y.steps(1);
        counted(y, 2);
    }

    private static void wind() {
        SheepSquare x = Due.town("q4;f5,0;p9,1;");
        due.is("wind(-1)", x.wind(-1), BAD);
        due.is("wind(10)", x.wind(10), BAD);
        due.is("wind(5)", x.wind(5), 4);
        x.steps(1);
        counted(x, 0);
        due.is("wind(0)", x.wind(0), 5);
        x.steps(1);
        counted(x, 1);
        due.is("wind(9)", x.wind(9), 0);
        due.is("wind now", x.count(4), 9);
        due.is("acts", x.count(6), 5);
    }

    private static void cough() {
        SheepSquare x = Due.town("q4;f5,0;p2,0;d3,0;");
        x.steps(3);
        due.is("cough(-1)", x.cough(-1), BAD);
        due.is("cough(2)", x.cough(2), BAD);
        due.is("cough(0)", x.cough(0), 3);
        due.is("off no more", x.off(0), 2);
        counted(x, 0, 6);
        due.is("cough(0) again", x.cough(0), 0);
        due.is("acts", x.count(6), 5);
        due.is("counts anew", x.steps(2), 3);
    }

    private static void undo() {
        SheepSquare x = Due.town("q4;f5,0;f5,2;p1,0;l1,0;");
        x.steps(2);
        x.change(0);
        x.wind(7);
        x.cough(0);
        due.is("five acts", x.count(6), 5);
        due.is("undo cough", x.undo(), 4);
        counted(x, 2, 0);
        due.is("off again", x.off(0), 1);
        due.is("undo wind", x.undo(), 3);
        due.is("wind again", x.count(4), 4);
        due.is("place yet", x.sheep(0, 2), 1);
        due.is("undo change", x.undo(), 2);
        due.is("place again", x.sheep(0, 2), 0);
        due.is("place again, the other", x.sheep(1, 2), 1);
        due.is("undo a step", x.undo(), 1);
        due.is("the light one is off again", x.off(0), 3);
        due.is("step 1", x.count(3), 1);
        due.is("undo the first", x.undo(), 0);
        due.is("nobody is off", x.off(0), 0);
        due.is("step 0", x.count(3), 0);
        due.is("none", x.undo(), STATE);
        x.steps(30);
        due.is("refused, no act", x.undo(), STATE);
    }

    private static void oldestIsForgotten() {
        SheepSquare x = Due.town("q4;f5,0;f5,1;p60,0;");
        x.wind(1);
        x.steps(20);
        x.change(0);
        due.is("22", x.count(6), 22);
        x.steps(7);
        due.is("24 at most", x.count(6), 24);
        for (int i = 23; i >= 0; i--) due.is("undo to " + i, x.undo(), i);
        due.is("none more", x.undo(), STATE);
        due.is("wind was forgotten", x.count(4), 1);
        due.is("step", x.count(3), 4);
        due.is("place", x.sheep(0, 2), 0);
        counted(x, 4);
    }

    private static void full() {
        SheepSquare x = Due.town("q4;f5,0;f5,1;f5,1;p60,0;");
        for (int i = 0; i < 416; i++) x.steps(24);
        due.is("9984", x.count(3), 9984);
        due.is("16 more", x.steps(16), SheepSquare.FULL);
        due.is("BAD ahead of FULL", x.steps(25), BAD);
        due.is("nothing went by", x.count(3), 9984);
        due.is("15 more", x.steps(15), 1);
        due.is("9999", x.count(3), 9999);
        due.is("1 more", x.steps(1), SheepSquare.FULL);
        due.is("foretold beyond", x.counted(0, 99), 99);
        x.undo();
        due.is("undone, one more", x.steps(1), 1);
    }

    private static void images() {
        SheepSquare x = Due.town("q4;f5,0;f6,1;p2,0;n3,1;");
        x.steps(1);
        due.is("image(2)", x.image(2), BAD);
        due.is("restore(2)", x.restore(2), BAD);
        due.is("restore(0)", x.restore(0), STATE);
        due.is("image(0)", x.image(0), 1);
        due.is("restore(1), none yet", x.restore(1), STATE);
        due.is("an image is no act", x.count(6), 1);
        x.change(0);
        x.wind(9);
        x.steps(4);
        due.is("image(1)", x.image(1), 1);
        Due.read(x, "q1;f1,1;l7,1;");
        due.is("restore(0)", x.restore(0), 1);
        due.is("no act can be undone", x.undo(), STATE);
        due.is("sheep", x.count(1), 2);
        due.is("sleepers", x.count(2), 2);
        due.is("step", x.count(3), 1);
        due.is("wind", x.count(4), 4);
        due.is("coat", x.sheep(1, 1), 1);
        due.is("kind", x.kind(1), 4);
        due.is("place", x.sheep(0, 2), 0);
        counted(x, 1, 1);
        x.steps(3);
        due.is("restore(1)", x.restore(1), 1);
        due.is("step of the other", x.count(3), 5);
        due.is("wind of the other", x.count(4), 9);
        due.is("place of the other", x.sheep(0, 2), 1);
        due.is("off of the other", x.off(0), 1);
        counted(x, 5, 1);
        due.is("restore(0), as it was kept", x.restore(0), 1);
        counted(x, 1, 1);
        x.steps(2);
        x.image(0);
        x.steps(2);
        x.restore(0);
        due.is("the later image counts", x.count(3), 3);
        due.is("acts are forgotten", x.count(6), 0);
        due.is("none to undo", x.undo(), STATE);
    }

    private static void count() {
        SheepSquare x = Due.town("q4;f5,0;f6,1;f6,1;p1,0;n1,0;n9,1;");
        x.row(3, 0, 0);
        x.row(5, 0, 1);
        x.row(7, 0, 1);
        x.drop(5);
        x.steps(5);
        x.feed('z');
        int[] want = {2, 3, 3, 5, 4, 2, 5, 1};
        for (int what = 0; what < 8; what++) due.is("count(" + what + ")", x.count(what), want[what]);
        due.is("count(-1)", x.count(-1), BAD);
        due.is("count(8)", x.count(8), BAD);
    }
}
