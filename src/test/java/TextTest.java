/** Promises 6 to 8, 14, 15, 30: the tape, texts and their FAULTS, what they tell. */
final class TextTest {
    private static final int BAD = SheepSquare.BAD;
    private static final Due due = new Due("TextTest");

    public static void main(String[] args) {
        feed();
        wellTold();
        faults();
        faultsLeaveAll();
        aNewSquareStandsInPlace();
        due.end();
    }

    private static void feed() {
        SheepSquare x = new SheepSquare();
        due.is("feed -1", x.feed(-1), BAD);
        due.is("feed 256", x.feed(256), BAD);
        for (int i = 1; i <= 100; i++) due.is("feed " + i, x.feed(i == 1 ? 0 : 255), i);
        due.is("feed 101", x.feed('q'), SheepSquare.FULL);
        due.is("feed BAD ahead of FULL", x.feed(256), BAD);
        due.is("100 bytes", x.count(7), 100);
        due.is("none of them is a token", x.square(), -1000100);
        due.is("empty then", x.count(7), 0);
        due.is("feed anew", x.feed('q'), 1);
    }

    private static void wellTold() {
        SheepSquare x = new SheepSquare();
        due.is("least", Due.read(x, "q0;f0,0;"), 0);
        due.is("one sheep", x.count(1), 1);
        due.is("no sleeper", x.count(2), 0);
        due.is("no such sleeper", x.kind(0), BAD);
        due.is("no such sheep", x.sheep(1, 0), BAD);
        due.is("most", Due.read(x, "q09;f0,0;f1,1;f2,2;f3,3;f08,00;f9,01;p60,0;d1,1;t01,00;n5,01;l59,0;"), 5);
        due.is("wind", x.count(4), 9);
        int[] loud = {0, 1, 2, 3, 8, 9}, coat = {0, 1, 2, 3, 0, 1};
        for (int i = 0; i < 6; i++) {
            due.is("loud " + i, x.sheep(i, 0), loud[i]);
            due.is("coat " + i, x.sheep(i, 1), coat[i]);
            due.is("place " + i, x.sheep(i, 2), i);
        }
        int[] needs = {60, 1, 1, 5, 59}, side = {0, 1, 0, 1, 0};
        for (int i = 0; i < 5; i++) {
            due.is("kind " + i, x.kind(i), i + 1);
            due.is("needs " + i, x.sleeper(i, 0), needs[i]);
            due.is("side " + i, x.sleeper(i, 1), side[i]);
            due.is("counted " + i, x.sleeper(i, 2), 0);
            due.is("off " + i, x.sleeper(i, 3), 0);
            due.is("hears " + i, x.sleeper(i, 4), side[i] == 0 ? 63 : 0);
        }
        x.wind(2);
        due.is("louder than wind", x.sleeper(1, 4), 56);
        x.wind(0);
        due.is("0 is not louder than 0", x.sleeper(3, 4), 62);
        int[] none = {-1, 5, 6, Integer.MIN_VALUE, Integer.MAX_VALUE};
        for (int i : none) {
            due.is("sleeper(" + i + ", 0)", x.sleeper(i, 0), BAD);
            due.is("sleeper(0, " + i + ")", x.sleeper(0, i), BAD);
            due.is("kind(" + i + ")", x.kind(i), BAD);
            due.is("sheep(0, " + i + ")", x.sheep(0, i), BAD);
        }
        due.is("sheep(6, 0)", x.sheep(6, 0), BAD);
        due.is("sheep(-1, 0)", x.sheep(-1, 0), BAD);
        due.is("sheep(0, 3)", x.sheep(0, 3), BAD);
    }

    private static void fault(String text, int number, int place) {
        SheepSquare x = new SheepSquare();
        due.is("square " + text, Due.read(x, text), -1000100 - place);
        due.is("fault of " + text, x.fault(), number);
        due.is("tape behind " + text, x.count(7), 0);
        due.is("no square by " + text, x.count(1), 0);
    }

    private static void faults() {
        fault("", 1, 0);
        fault("q", 1, 1);
        fault("Q1;", 1, 0);
        fault(" q1;", 1, 0);
        fault("qq1;", 1, 1);
        fault("1", 1, 0);
        fault("q;", 1, 1);
        fault("q10;", 2, 1);
        fault("q99", 2, 1);
        fault("q100;", 1, 1);
        fault("q000;", 1, 1);
        fault("q1,", 1, 2);
        fault("q1;", 1, 3);
        fault("q1;p1,0;", 1, 3);
        fault("q1;f", 1, 4);
        fault("q1;f10,0;", 2, 4);
        fault("q1;f9;", 1, 5);
        fault("q1;f9,4;", 2, 6);
        fault("q1;f9,00;;", 1, 9);
        fault("q1;f9,0,", 1, 7);
        fault("q1;f9,0;q", 1, 8);
        fault("q1;f9,0;x", 1, 8);
        fault("q1;f9,0;p0,0;", 2, 9);
        fault("q1;f9,0;p61,0;", 2, 9);
        fault("q1;f9,0;p600,0;", 1, 9);
        fault("q1;f9,0;p60,2;", 2, 12);
        fault("q1;f9,0;p60,1", 1, 13);
        fault("q1;f9,0;p60,1;f", 1, 14);
        fault("q1;f9,0;p60,1;q", 1, 14);
        fault("q1;f9,0;p60,1;1", 1, 14);
        fault("q1;f9,0;p60,1; ", 1, 14);
        fault("q1;f9,0;p,1;", 1, 9);
        fault("q1;f9,0;p1;", 1, 10);
        fault("q1;f9,0;p1,;", 1, 11);
        fault("q1;f0,0;f0,0;f0,0;f0,0;f0,0;f0,0;f", 3, 33);
        fault("q1;f0,0;f0,0;f0,0;f0,0;f0,0;f0,0;x", 1, 33);
        fault("q1;f0,0;p1,0;p1,0;p1,0;p1,0;p1,0;l", 3, 33);
        fault("q1;f0,0;p1,0;p1,0;p1,0;p1,0;p1,0;f", 1, 33);
        fault("q1;f0,0;p1,0;p1,0;p1,0;p1,0;p1,0;pp", 3, 33);
        fault("q\u00e91;", 1, 1);
        for (int b = 0; b < 256; b++) {
            if ("pdtnlf".indexOf(b) < 0) fault("q1;f0,0;" + (char) b, 1, 8);
        }
    }

    private static void faultsLeaveAll() {
        SheepSquare x = Due.town("q3;f5,0;f6,1;p2,0;");
        x.steps(2);
        due.is("fault behind a good one", x.fault(), 0);
        due.is("a fault", Due.read(x, "q3;f5,0;f6,1;p2,0;f"), -1000118);
        due.is("step stays", x.count(3), 2);
        due.is("acts stay", x.count(6), 2);
        due.is("off stays", x.off(0), 1);
        due.is("wind stays", x.count(4), 3);
        due.is("a good one", Due.read(x, "q3;f5,0;"), 0);
        due.is("the latest fault stays", x.fault(), 1);
        Due.read(x, "q10;");
        due.is("another fault", x.fault(), 2);
    }

    private static void aNewSquareStandsInPlace() {
        SheepSquare x = Due.town("q3;f5,0;f6,1;p2,0;n1,0;");
        x.steps(3);
        x.change(0);
        x.wind(7);
        x.off(50);
        due.is("in its place", Due.read(x, "q1;f4,3;f2,2;f1,1;d7,1;"), 1);
        due.is("step", x.count(3), 0);
        due.is("wind", x.count(4), 1);
        due.is("who are off", x.count(5), 0);
        due.is("who are off, bits", x.off(0), 0);
        due.is("acts", x.count(6), 0);
        due.is("undo", x.undo(), SheepSquare.STATE);
        due.is("counted", x.sleeper(0, 2), 0);
        due.is("place", x.sheep(0, 2), 0);
        due.is("second sleeper is gone", x.sleeper(1, 0), BAD);
    }
}
