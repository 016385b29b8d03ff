/** Promises 16 to 27: each bound of what is FORETOLD (0 to 99 STEPS, sets, rows, WIND, KINDS, fractions). */
final class ForetoldBoundsTest {
    private static final int NONE = Town.NONE, BAD = Town.BAD, STATE = Town.STATE, NULL = Town.NULL, PLACE = Town.PLACE;
    /** One of five sheep is heard, 20 times are needed: OFF first behind 99 STEPS, or behind 100. */
    private static final String BEHIND_99 = "q0;f0,0;f0,0;f0,0;f1,0;f0,0;p20,1;", BEHIND_100 = "q0;f0,0;f0,0;f0,0;f0,0;f1,0;p20,1;";
    private static final Due due = new Due("ForetoldBoundsTest");

    public static void main(String[] args) {
        promise16();
        promise17();
        promise18();
        promise19Sets();
        promise19();
        promise20();
        promise21HowMany();
        promise21Last();
        promise21SixSteps();
        promise22Numbers();
        promise22KthAndNone();
        promise22FirstOfSeveral();
        promise22Last();
        promise23Numbers();
        promise23Bounds();
        promise23Row();
        rowsThatTell();
        rowsOf16();
        rowsOfEachLane();
        promise24();
        promise25();
        promise26();
        promise27Numbers();
        promise27Bounds();
        promise27LowestTerms();
        promise27FirstStays();
        fromNow();
        fromNowBehindOthers();
        due.end();
    }

    private static Town town(String sentence) {
        return new Town(due, sentence);
    }

    private static void tell(Town x, int... items) {
        x.run("row(0, 2, " + items.length + ")");
        for (int i = 0; i < items.length; i++) x.run("set(0, " + i + ", " + items[i] + ")");
    }

    private static void promise16() {
        town("16, STATE: no SQUARE (ahead of BAD)").is(STATE, "off(0)", "off(99)", "off(-1)", "off(100)", "off(MAX)");
        Town x = town("16, d STEPS from now (0 to 99)").reads(BEHIND_99);
        x.is(BAD, "off(MIN)", "off(-1)", "off(100)", "off(101)", "off(MAX)").is(0, "off(0)", "off(98)").is(1, "off(99)");
        town("16, behind 100").reads(BEHIND_100).is(0, "off(99)").is(BAD, "off(100)").run("steps(1)").is(0, "off(98)").is(1, "off(99)");
        x = town("16, 0: now").reads("q0;f1,0;f1,3;p1,0;l1,0;").is(0, "off(0)").is(3, "off(1)").is(1, "off(2)")
            .is(3, "off(99)", "steps(1)", "off(0)").is(1, "off(99)");
        town("16, nobody there").reads("q0;f1,0;").is(0, "off(0)", "off(99)").is(BAD, "off(100)");
    }

    private static void promise17() {
        town("17, BAD: no SQUARE").is(BAD, "counted(0, 0)", "counted(-1, 0)", "counted(0, 100)");
        town("17, BAD: nobody there").reads("q0;f1,0;").is(BAD, "counted(0, 0)");
        Town x = town("17, BAD: SLEEPER, d").reads("q0;f1,1;p60,0;d60,0;t60,0;n60,0;l60,0;");
        x.is(BAD, "counted(MIN, 0)", "counted(-1, 0)", "counted(5, 0)", "counted(6, 0)", "counted(MAX, 0)");
        x.is(BAD, "counted(0, MIN)", "counted(0, -1)", "counted(0, 100)", "counted(4, 101)", "counted(0, MAX)");
        for (int s = 0; s < 5; s++) x.are("counted(" + s + ", ", 0, 1, 2).is(98, "counted(" + s + ", 98)").is(99, "counted(" + s + ", 99)");
        x = town("17, 99 at most are COUNTED").reads("q0;f1,0;p60,0;d60,0;").run("steps(1)").is(98, "counted(0, 97)")
            .is(99, "counted(0, 98)", "counted(0, 99)");
        x.is(98, "counted(1, 48)").is(99, "counted(1, 49)", "counted(1, 50)", "counted(1, 99)").is(1, "sleeper(0, 2)");
        town("17, of three sleepers").reads("q0;f1,0;p1,0;p2,0;d3,0;").is(2, "counted(2, 1)").is(BAD, "counted(3, 1)");
    }

    private static void promise18() {
        town("18, BAD: no SQUARE").is(BAD, "when(0)", "when(-1)");
        town("18, BAD: nobody there").reads("q0;f1,0;").is(BAD, "when(0)");
        Town x = town("18, BAD").reads("q0;f1,0;p1,0;p2,0;").is(BAD, "when(MIN)", "when(-1)", "when(2)", "when(5)", "when(MAX)")
            .is(1, "when(0)").is(2, "when(1)");
        x = town("18, 0: now").reads("q0;f1,0;p1,0;p2,0;").run("steps(1)").is(0, "when(0)").is(1, "when(1)").run("steps(24)")
            .is(0, "when(0)", "when(1)");
        town("18, to 99").reads(BEHIND_99).is(99, "when(0)").run("steps(1)").is(98, "when(0)");
        town("18, not to 100").reads(BEHIND_100).is(NONE, "when(0)").run("steps(1)").is(99, "when(0)").run("undo()").is(NONE, "when(0)");
        x = town("18, OFF first, though woken then").reads("q0;f1,0;f1,2;l1,0;").is(1, "when(0)").run("steps(1)").is(0, "when(0)")
            .run("steps(1)").is(1, "when(0)");
        town("18, NONE").reads("q9;f9,0;f9,0;p1,1;n2,0;").is(NONE, "when(0)").is(2, "when(1)");
    }

    private static void promise19Sets() {
        town("19, STATE: no SQUARE (ahead of BAD)").is(STATE, "all(0)", "all(1)", "all(-1)", "all(32)", "all(MAX)");
        town("19, BAD: of nobody").reads("q0;f1,0;").is(0, "all(0)").is(BAD, "all(1)", "all(2)", "all(-1)", "all(MIN)", "all(MAX)");
        town("19, BAD: of one").reads("q0;f1,0;p1,0;").is(0, "all(0)").is(1, "all(1)").is(BAD, "all(2)", "all(3)", "all(-1)");
        Town x = town("19, BAD: of five").reads("q0;f1,0;p1,0;p2,0;p3,0;p4,0;p5,0;").is(0, "all(0)").is(5, "all(31)", "all(16)", "all(17)")
            .is(4, "all(15)", "all(8)");
        x.is(BAD, "all(32)", "all(33)", "all(63)", "all(64)", "all(-1)", "all(-32)", "all(MIN)", "all(MAX)");
    }

    private static void promise19() {
        town("19, behind 0 to 99").reads(BEHIND_99).is(99, "all(1)").run("steps(24)").is(75, "all(1)");
        town("19, not 100").reads(BEHIND_100).is(NONE, "all(1)").is(0, "all(0)").run("steps(1)").is(99, "all(1)");
        Town x = town("19, at once").reads("q0;f1,1;f9,3;p1,1;l1,0;").run("wind(5)").is(3, "all(3)").is(2, "all(1)").is(1, "all(2)");
        x.run("steps(1)").is(0, "all(2)").is(2, "all(3)").run("steps(2)").is(0, "all(3)");
        town("19, each in turn but never at once").reads("q0;f1,1;f1,3;l1,0;l2,0;p1,0;").is(1, "all(5)")
            .is(NONE, "all(3)", "all(2)", "all(7)");
    }

    private static void promise20() {
        town("20, STATE: no SQUARE").is(STATE, "never()");
        town("20, of nobody").reads("q0;f1,0;").is(0, "never()");
        town("20, all five").reads("q9;f9,0;p1,1;d1,1;t1,1;n1,1;l1,1;").is(31, "never()");
        town("20, none of five").reads("q0;f9,0;p60,0;d60,1;t60,0;n60,1;l60,1;").is(0, "never()");
        town("20, behind 99").reads(BEHIND_99).is(0, "never()");
        town("20, behind 100").reads(BEHIND_100).is(1, "never()").run("steps(1)").is(0, "never()");
        Town x = town("20, OFF behind 0 alone").reads("q3;f5,0;f1,2;l2,1;").run("steps(3)", "wind(0)").is(1, "off(0)")
            .is(0, "never()", "off(1)", "off(99)");
        x.run("steps(1)").is(1, "never()");
    }

    private static void promise21HowMany() {
        town("21, STATE: no SQUARE (ahead of BAD)").is(STATE, "quiet(0)", "quiet(5)", "quiet(-1)", "quiet(6)", "quiet(MAX)");
        Town x = town("21, m (0 to 5)").reads("q0;f1,0;p1,0;p2,0;p3,0;p4,0;p5,0;")
            .is(BAD, "quiet(MIN)", "quiet(-1)", "quiet(6)", "quiet(7)", "quiet(MAX)");
        x.are("quiet(", 0, 1, 2, 3, 4, 5, BAD).run("steps(3)").are("quiet(", 0, 0, 0, 0, 1, 2, BAD);
        town("21, more than there are").reads("q0;f1,0;p1,0;p2,0;").are("quiet(", 0, 1, 2, NONE, NONE, NONE, BAD);
        town("21, nobody there").reads("q0;f1,0;").are("quiet(", 0, NONE, NONE, NONE, NONE, NONE, BAD);
    }

    private static void promise21Last() {
        town("21, behind 99, and 6 more").reads(BEHIND_99).is(99, "quiet(1)");
        town("21, behind 100").reads(BEHIND_100).is(NONE, "quiet(1)").run("steps(1)").is(99, "quiet(1)");
        town("21, woken by a STEP beyond 99").reads("q0;f1,0;f1,0;f1,0;f1,0;f1,0;f1,2;l1,0;").is(1, "off(97)", "off(99)")
            .is(NONE, "quiet(1)");
        Town x = town("21, one behind 96 to 99, another from 99 on").reads("q0;f0,0;f0,0;f0,0;f1,0;f0,3;p20,1;l1,0;")
            .is(99, "all(1)", "all(3)");
        x.is(96, "quiet(1)").is(NONE, "quiet(2)").run("steps(1)").is(95, "quiet(1)");
    }

    private static void promise21SixSteps() {
        Town x = town("21, behind each of the 6 STEPS that come then: woken by the 6th").reads("q5;f6,0;f5,0;f5,0;f5,0;f5,0;f9,3;l1,1;");
        x.run("steps(1)", "wind(9)", "steps(5)", "wind(5)").is(1, "off(0)", "off(5)").is(0, "off(6)").is(NONE, "quiet(1)");
        x = town("21, woken by the 1st").reads("q0;f1,0;f1,3;l1,0;").run("steps(1)").is(1, "off(0)").is(0, "off(1)").is(NONE, "quiet(1)");
        x = town("21, so many, though not the same").reads("q0;f1,0;f1,2;t3,0;l1,0;").is(5, "quiet(1)").is(NONE, "quiet(2)")
            .is(2, "off(1)", "off(3)").is(0, "off(4)");
        town("21, never woken").reads("q0;f1,0;f0,2;l1,1;").is(1, "quiet(1)").run("steps(1)").is(0, "quiet(1)");
    }

    private static void promise22Numbers() {
        town("22, STATE: no SQUARE (ahead of BAD)").is(STATE, "order(0, -1)", "order(0, 0)", "order(1, 0)", "order(-1, 0)",
            "order(0, -2)", "order(0, 6)", "order(MAX, MAX)");
        Town x = town("22, BAD: told sleepers").reads("q0;f1,0;p1,0;p1,0;")
            .is(BAD, "order(-1, 0)", "order(4, 0)", "order(5, -1)", "order(MIN, 0)", "order(MAX, 0)", "order(4, 6)");
        x.is(0, "order(0, -1)").is(1, "order(1, -1)", "order(2, -1)", "order(3, -1)");
        x = town("22, BAD: k not -1 to 5").reads("q0;f1,0;f1,0;f1,0;f1,0;f1,0;f1,0;p1,0;")
            .is(BAD, "order(1, MIN)", "order(1, -2)", "order(1, 6)", "order(1, 7)", "order(1, MAX)");
        x.is(1, "order(1, -1)").are("order(1, ", 0, 1, 2, 3, 4, 5, BAD);
        town("22, of five").reads("q0;f1,0;p1,0;p1,0;p1,0;p1,0;p1,0;").is(1, "order(31, -1)").is(BAD, "order(32, -1)");
        town("22, of nobody").reads("q0;f1,0;f1,0;").is(0, "order(0, -1)", "order(0, 0)").is(1, "order(0, 1)").is(BAD, "order(1, -1)");
    }

    private static void promise22KthAndNone() {
        for (int many = 1; many <= 6; many++) {
            Town x = town("22, NONE: no such one, of " + many + " sheep").reads("q0;" + "f1,0;".repeat(many) + "p1,0;n1,1;").run("wind(1)");
            for (int k = 0; k < 6; k++) x.is(k < many ? k : NONE, "order(1, " + k + ")")
                .is(NONE, "order(2, " + k + ")", "order(3, " + k + ")");
            x.is(1, "order(1, -1)").is(NONE, "order(2, -1)", "order(3, -1)").is(BAD, "order(1, 6)", "order(2, 6)");
        }
        town("22, NONE: by none, none is told behind one that was").reads("q5;f1,0;f9,0;p1,1;n1,1;").is(1, "order(1, 0)").run("wind(9)")
            .is(NONE, "order(1, 0)", "order(1, -1)");
    }

    private static void promise22FirstOfSeveral() {
        Town x = town("22, of several the first, by numbers").reads("q0;f1,0;f1,0;f1,0;f1,0;f1,0;f1,0;p3,0;")
            .run("change(0)", "change(2)", "change(4)");
        x.are("order(1, ", 0, 1, 2, 3, 4, 5).are("order(0, ", 0, 1, 2, 3, 4, 5).is(3, "order(1, -1)").is(0, "order(0, -1)");
        x.is(1, "sheep(0, 2)").run("steps(3)").is(0, "order(1, -1)").are("order(1, ", 0, 1, 2, 3, 4, 5);
        x = town("22, an order in the midst").reads("q8;f0,3;f0,0;f9,1;l2,0;p1,1;").is(2, "order(1, -1)");
        x.are("order(1, ", 1, 2, 0).is(1, "order(2, -1)").are("order(2, ", 2, 0, 1).is(2, "order(3, -1)").are("order(3, ", 1, 2, 0);
        x = town("22, the last of all orders alone").reads("q5;f1,0;f9,0;f9,3;p2,1;l1,1;").is(5, "all(3)").is(2, "order(3, -1)")
            .are("order(3, ", 2, 1, 0, NONE);
        x = town("22, backwards").reads("q0;f1,3;f1,2;f1,1;f1,0;n2,0;d4,0;").is(2, "order(1, -1)").are("order(1, ", 2, 3, 0, 1, NONE)
            .is(2, "order(2, -1)").are("order(2, ", 1, 3, 0, 2);
        x = town("22, from STEP 1 on").reads("q5;f9,0;f1,0;f1,0;p9,1;").run("steps(1)").is(24, "all(1)").is(22, "order(1, -1)")
            .are("order(1, ", 1, 0, 2);
        x.run("steps(1)").is(22, "order(1, -1)").are("order(1, ", 1, 2, 0).run("steps(1)").is(22, "order(1, -1)").are("order(1, ", 0, 1, 2);
    }

    private static void promise22Last() {
        Town x = town("22, behind 99").reads("q0;f0,0;f1,0;p50,1;").is(NONE, "all(1)").is(99, "order(1, -1)").are("order(1, ", 1, 0, NONE);
        town("22, behind 100").reads("q0;f0,0;f0,0;f1,0;p34,1;").is(NONE, "order(1, -1)", "order(1, 0)").reads("q0;f0,0;f0,0;f1,0;p33,1;")
            .is(97, "order(1, -1)").are("order(1, ", 2, 0, 1);
        town("22, behind 101").reads("q0;f0,0;f1,0;p51,1;").is(NONE, "order(1, -1)", "order(1, 0)", "order(1, 5)").run("steps(2)")
            .is(99, "order(1, -1)");
    }

    private static void promise23Numbers() {
        town("23, STATE: no SQUARE (ahead of BAD)").is(STATE, "fewest(0, 0, 0)", "fewest(1, 0, 0)", "fewest(-1, 0, 0)",
            "fewest(0, 100, 0)", "fewest(0, 0, 2)");
        Town x = town("23, BAD").reads("q0;f1,0;p1,0;p1,0;").is(BAD, "fewest(MIN, 9, 0)", "fewest(-1, 9, 0)", "fewest(4, 9, 0)",
            "fewest(5, 9, 1)", "fewest(MAX, 9, 0)");
        x.is(BAD, "fewest(1, MIN, 0)", "fewest(1, -1, 0)", "fewest(1, 100, 0)", "fewest(1, MAX, 0)", "fewest(1, 9, MIN)",
            "fewest(1, 9, -1)", "fewest(1, 9, 2)", "fewest(1, 9, MAX)");
        x.is(1, "fewest(3, 99, 0)", "fewest(3, 99, 1)", "fewest(0, 0, 0)", "fewest(0, 0, 1)", "fewest(3, 1, 0)")
            .is(NONE, "fewest(3, 0, 0)", "fewest(3, 0, 1)");
        town("23, of five").reads("q0;f1,0;p1,0;p1,0;p1,0;p1,0;p1,0;").is(1, "fewest(31, 1, 0)").is(BAD, "fewest(32, 1, 0)");
        town("23, of nobody").reads("q0;f1,0;").is(1, "fewest(0, 0, 0)", "fewest(0, 99, 1)").is(BAD, "fewest(1, 0, 0)");
    }

    /** The far one hears the bell alone, which wakes the light one: both sheep are needed. */
    private static void promise23Bounds() {
        Town x = town("23, 0 to d STEPS, d 99").reads("q5;f1,1;f9,3;p49,1;l1,0;").is(2, "fewest(3, 99, 0)").is(3, "fewest(3, 99, 1)")
            .is(NONE, "fewest(3, 98, 0)", "fewest(3, 98, 1)");
        town("23, beyond 99").reads("q5;f1,1;f9,3;p50,1;l1,0;").is(NONE, "fewest(3, 99, 0)", "fewest(3, 99, 1)").run("steps(2)")
            .is(2, "fewest(3, 99, 0)");
        x = town("23, 0: now").reads("q0;f1,0;f1,2;l1,0;").run("steps(1)").is(1, "fewest(1, 0, 0)", "fewest(1, 0, 1)").run("steps(1)")
            .is(NONE, "fewest(1, 0, 0)").is(1, "fewest(1, 1, 0)");
        x = town("23, one of six, the least, the last").reads("q5;f1,0;f2,0;f3,0;f4,0;f5,0;f6,0;p3,1;p3,0;").is(1, "fewest(1, 3, 0)")
            .is(32, "fewest(1, 3, 1)").is(1, "fewest(2, 3, 1)");
        x = town("23, of several the least").reads("q5;f1,2;f9,0;f9,0;l2,1;").is(2, "fewest(1, 2, 1)").run("change(1)")
            .is(2, "fewest(1, 2, 1)");
        x = town("23, all six").reads("q8;f1,1;f1,1;f1,1;f1,1;f1,1;f9,3;l5,0;p1,1;").is(6, "fewest(3, 11, 0)").is(63, "fewest(3, 11, 1)")
            .is(NONE, "fewest(3, 10, 0)");
    }

    private static void promise23Row() {
        Town x = town("23, in the row as they are").reads("q5;f1,1;f9,3;p1,1;l1,0;").is(NONE, "fewest(3, 2, 0)").is(2, "fewest(3, 3, 0)");
        x.run("change(0)").is(2, "fewest(3, 2, 0)").is(3, "fewest(3, 2, 1)").is(NONE, "fewest(3, 1, 0)");
        x = town("23, the others away: STEP by how many are left").reads("q5;f1,1;f9,3;f0,0;p1,1;l1,0;").run("steps(1)", "cough(1)");
        x.is(2, "fewest(3, 2, 0)").is(3, "fewest(3, 2, 1)").is(NONE, "fewest(3, 1, 0)");
    }

    /** missing, windy and sorts take a row in the same way. */
    private static void rowsThatTell() {
        town("24, STATE: no SQUARE (ahead of BAD)").is(STATE, "missing(0, 0, 1)", "missing(-1, 0, 1)", "missing(8, 0, 1)",
            "missing(0, 0, 0)", "missing(0, 0, 17)");
        town("25, STATE: no SQUARE (ahead of BAD)").is(STATE, "windy(0, 0, 1)", "windy(-1, 0, 1)", "windy(8, 0, 1)", "windy(0, 0, 0)",
            "windy(0, 0, 17)");
        town("26, BAD: no SQUARE").run("row(0, 0, 1)").is(BAD, "sorts(0, 0, 0, 1)", "sorts(0, 1, 0, 1)", "sorts(0, 0, 1, 1)");
        town("26, BAD: nobody there").reads("q0;f1,0;").run("row(0, 0, 1)").is(BAD, "sorts(0, 0, 0, 1)", "sorts(0, 1, 0, 1)");
        for (String call : new String[] {"missing(", "windy(", "sorts(0, ", "sorts(4, "}) {
            Town x = town("24 to 26, BAD: ROW, n; NULL; PLACE").reads("q0;f1,0;f1,0;p1,0;p1,0;p1,0;p1,0;p1,0;")
                .run("row(0, 0, 20)", "row(1, 0, 0)", "row(7, 2, 40)");
            for (String row : new String[] {"MIN", "-1", "8", "9", "MAX"}) x.is(BAD, call + row + ", 0, 1)", call + row + ", -1, 17)");
            for (String n : new String[] {"MIN", "-1", "0", "17", "18", "MAX"}) x.is(BAD, call + "0, 0, " + n + ")",
                call + "5, 0, " + n + ")", call + "0, -1, " + n + ")");
            x.is(0, "status()").is(NULL, call + "2, 0, 1)", call + "2, -1, 16)", call + "6, 99, 1)").is(1, "status()");
            for (String i : new String[] {"MIN", "-1", "5", "6", "20", "21", "MAX"}) x.is(PLACE, call + "0, " + i + ", 16)");
            for (String i : new String[] {"MIN", "-1", "20", "21", "MAX"}) x.is(PLACE, call + "0, " + i + ", 1)");
            x.is(PLACE, call + "1, 0, 1)", call + "1, -1, 1)", call + "7, 25, 16)", call + "7, 40, 1)").is(2, "status()");
            x.is(0, call + "0, 0, 16)", call + "0, 4, 16)", call + "0, 19, 1)", call + "7, 24, 16)", call + "7, 39, 1)", "status()");
        }
        Town x = town("26, BAD: SLEEPER").reads("q0;f1,0;p1,0;p1,0;").run("row(0, 0, 1)");
        x.is(BAD, "sorts(MIN, 0, 0, 1)", "sorts(-1, 0, 0, 1)", "sorts(2, 0, 0, 1)", "sorts(5, 0, 0, 1)", "sorts(MAX, 0, 0, 1)",
            "sorts(2, 7, 0, 1)", "sorts(2, 0, 9, 1)");
    }

    /** Of the last of 16 ITEMS each is looked at, and none behind it. */
    private static void rowsOf16() {
        Town x = town("24 to 26, n STEPS (1 to 16)").reads("q9;f9,0;f9,0;p16,0;");
        tell(x, 0, 0, 0, 0, 0, 0, 0, 0, 0, 0, 0, 0, 0, 0, 0, 1, 7);
        x.is(3, "missing(0, 0, 16)", "missing(0, 0, 15)", "missing(0, 0, 1)").is(1023, "windy(0, 0, 16)", "windy(0, 0, 15)")
            .is(58, "sorts(0, 0, 0, 16)").is(0, "missing(0, 1, 15)", "windy(0, 1, 15)", "missing(0, 15, 1)", "windy(0, 1, 16)");
        x.run("set(0, 15, 0)").is(0, "missing(0, 0, 16)", "windy(0, 0, 16)", "sorts(0, 0, 0, 16)").is(3, "missing(0, 0, 15)")
            .is(1023, "windy(0, 0, 15)").is(58, "sorts(0, 0, 0, 15)");
        x.run("steps(24)").is(0, "windy(0, 0, 1)", "missing(0, 0, 1)").run("set(0, 0, 1)").is(1023, "windy(0, 0, 1)")
            .is(3, "missing(0, 0, 1)");
        x = town("24 to 26, the first ITEM is behind 1 STEP").reads("q0;f1,0;f1,0;p1,0;");
        tell(x, 0, 1);
        x.is(0, "missing(0, 0, 1)", "windy(0, 0, 1)", "sorts(0, 0, 0, 1)").is(3, "missing(0, 1, 1)").is(1023, "windy(0, 1, 1)")
            .is(62, "sorts(0, 0, 1, 1)");
    }

    private static void rowsOfEachLane() {
        for (int lane = 0; lane < 3; lane++) {
            Town x = town("24 to 26, a ROW of LANE " + lane).reads("q0;f1,0;f1,0;p1,0;")
                .run("row(7, " + lane + ", 2)", "set(7, 0, 65793)", "set(7, 1, 65537)");
            x.is(lane == 0 ? 1023 : 0, "windy(7, 0, 1)").is(lane == 2 ? 0 : 3, "missing(7, 1, 1)")
                .is(lane == 2 ? 0 : 62, "sorts(0, 7, 1, 1)").run("set(7, 1, -1)").is(0, "windy(7, 1, 1)");
        }
    }

    private static void promise24() {
        Town x = town("24, of one sheep none").reads("q0;f1,0;p1,0;").run("row(0, 0, 2)", "set(0, 0, 1)", "set(0, 1, 1)")
            .is(0, "missing(0, 0, 2)", "missing(0, 0, 1)", "status()");
        x.is(PLACE, "missing(0, 1, 2)").is(NULL, "missing(1, 0, 1)").is(BAD, "missing(0, 0, 0)");
        town("24, of one sheep none, though nobody were OFF without it").reads("q0;f1,0;p1,0;").run("row(0, 0, 2)")
            .is(0, "missing(0, 0, 2)", "missing(0, 0, 1)");
        x = town("24, of two sheep").reads("q5;f9,0;f1,0;p2,1;");
        tell(x, 0, 1);
        x.is(2, "missing(0, 0, 2)").run("set(0, 1, 0)").is(1, "missing(0, 0, 2)").run("set(0, 0, 1)").is(0, "missing(0, 0, 2)")
            .is(0, "missing(0, 0, 1)");
        x = town("24, of six sheep").reads("q5;f9,0;f9,0;f9,0;f9,0;f9,0;f1,0;p6,1;");
        tell(x, 0, 0, 0, 0, 0, 1);
        x.is(32, "missing(0, 0, 6)").is(63, "missing(0, 0, 5)").run("set(0, 5, 0)").is(31, "missing(0, 0, 6)");
        x = town("24, by their numbers, wherever in the row").reads("q5;f9,0;f1,0;f9,0;p3,1;").run("change(0)", "change(1)");
        tell(x, 0, 0, 1);
        x.is(2, "missing(0, 0, 3)").is(2, "sheep(0, 2)");
        x = town("24, STEP by how many are left").reads("q5;f9,0;f1,0;f9,2;n2,1;").run("steps(2)", "cough(0)");
        tell(x, 0, 0, 1);
        x.is(4, "missing(0, 0, 3)").run("set(0, 2, 0)").is(3, "missing(0, 0, 3)").is(7, "missing(0, 0, 2)", "missing(0, 0, 1)");
        tell(x, 0, 1, 1);
        x.is(0, "missing(0, 0, 3)");
        x = town("24, STEP 1 by two").reads("q5;f1,0;f1,0;f9,0;p1,1;").run("steps(1)", "row(0, 0, 1)", "set(0, 0, 1)")
            .is(3, "missing(0, 0, 1)").run("set(0, 0, 0)").is(4, "missing(0, 0, 1)");
    }

    private static void promise25() {
        Town x = town("25, WIND (0 to 9, bits)").reads("q0;f9,0;p1,1;").run("row(0, 0, 1)").is(512, "windy(0, 0, 1)").run("set(0, 0, 1)")
            .is(511, "windy(0, 0, 1)");
        town("25, all").reads("q0;f0,0;p1,1;").run("row(0, 0, 1)").is(1023, "windy(0, 0, 1)").run("set(0, 0, 1)").is(0, "windy(0, 0, 1)")
            .run("wind(9)").is(0, "windy(0, 0, 1)");
        x = town("25, WIND 0 alone").reads("q9;f1,0;p1,1;").run("row(0, 0, 1)", "set(0, 0, 1)").is(1, "windy(0, 0, 1)").is(9, "count(4)")
            .is(0, "sleeper(0, 4)");
        x = town("25, each by itself").reads("q0;f5,0;f7,0;p1,1;p60,0;");
        tell(x, 0, 1);
        x.is(96, "windy(0, 0, 2)").run("set(0, 1, 0)").is(896, "windy(0, 0, 2)").run("set(0, 0, 1)", "set(0, 1, 1)")
            .is(31, "windy(0, 0, 2)");
        town("25, nobody there").reads("q0;f1,0;").run("row(0, 0, 16)").is(1023, "windy(0, 0, 16)").run("set(0, 15, 1)")
            .is(0, "windy(0, 0, 16)").is(1023, "windy(0, 0, 15)");
        town("25, all five OFF").reads("q0;f1,0;p1,0;d1,0;t1,0;n1,0;l1,0;").run("row(0, 0, 1)", "set(0, 0, 5)").is(1023, "windy(0, 0, 1)")
            .run("set(0, 0, 6)").is(0, "windy(0, 0, 1)");
    }

    private static void promise26() {
        Town x = town("26, KINDS (bits 1 to 5)").reads("q0;f1,0;f1,1;f1,3;p3,0;p60,0;");
        tell(x, 0, 1, 1, 1);
        x.is(4, "sorts(0, 0, 0, 4)").run("set(0, 1, 0)").is(2, "sorts(0, 0, 0, 4)").run("set(0, 2, 0)").is(8, "sorts(0, 0, 0, 4)")
            .run("set(0, 3, 0)").is(48, "sorts(0, 0, 0, 4)");
        x.is(62, "sorts(0, 0, 0, 1)").is(0, "sorts(1, 0, 0, 4)").are("kind(", 1, 1, BAD);
        x = town("26, a light one alone is woken").reads("q0;f1,0;f1,2;p1,0;").run("steps(1)");
        tell(x, 0, 1);
        x.is(32, "sorts(0, 0, 0, 2)").run("set(0, 0, 1)").is(30, "sorts(0, 0, 0, 2)").is(1, "kind(0)");
        x = town("26, of the fifth").reads("q0;f1,0;p9,0;p9,0;p9,0;p9,0;d2,0;").run("row(0, 0, 2)", "set(0, 0, 1)", "set(0, 1, 1)")
            .is(4, "sorts(4, 0, 0, 2)").is(62, "sorts(3, 0, 0, 2)", "sorts(0, 0, 0, 2)").is(2, "kind(4)");
    }

    private static void fraction(Town x, String begun, int above, int below) {
        x.is(above, begun + ", 0)").is(below, begun + ", 1)");
    }

    private static void promise27Numbers() {
        town("27, BAD: no SQUARE").is(BAD, "stay(0, 0, 0, 0)", "stay(-1, 0, 0, 0)", "stay(0, 100, 0, 0)");
        town("27, BAD: nobody there").reads("q0;f1,0;").is(BAD, "stay(0, 0, 0, 0)", "stay(0, 0, 0, 1)");
        Town x = town("27, BAD").reads("q0;f1,0;f1,0;p1,0;p1,0;").is(BAD, "stay(MIN, 1, 5, 0)", "stay(-1, 1, 5, 0)", "stay(2, 1, 5, 0)",
            "stay(5, 1, 5, 0)", "stay(MAX, 1, 5, 0)");
        x.is(BAD, "stay(0, MIN, 5, 0)", "stay(0, -1, 5, 0)", "stay(0, 100, 5, 0)", "stay(0, MAX, 5, 0)");
        x.is(BAD, "stay(0, 1, MIN, 0)", "stay(0, 1, -1, 0)", "stay(0, 1, 11, 0)", "stay(0, 1, 12, 0)", "stay(0, 1, MAX, 0)");
        x.is(BAD, "stay(0, 1, 5, MIN)", "stay(0, 1, 5, -1)", "stay(0, 1, 5, 2)", "stay(0, 1, 5, MAX)");
        for (int c = 0; c <= 10; c++) fraction(x, "stay(1, 1, " + c, 1, 1);
        for (int c = 0; c <= 10; c++) fraction(x, "stay(1, 0, " + c, 0, 1);
    }

    private static void promise27Bounds() {
        Town x = town("27, behind d STEPS (0 to 99)").reads(BEHIND_99);
        fraction(x, "stay(0, 99, 0", 1, 1);
        fraction(x, "stay(0, 98, 0", 0, 1);
        fraction(x, "stay(0, 99, 10", 0, 1);
        x.is(BAD, "stay(0, 100, 0, 0)");
        x = town("27, 0: now, whoever stays away").reads("q0;f1,0;f1,2;l1,0;").run("steps(1)");
        fraction(x, "stay(0, 0, 5", 1, 1);
        fraction(x, "stay(0, 1, 5", 1, 2);
        fraction(x, "stay(0, 1, 0", 0, 1);
        fraction(x, "stay(0, 1, 10", 1, 1);
        fraction(x, "stay(0, 1, 3", 3, 10);
    }

    private static void promise27LowestTerms() {
        Town x = town("27, lowest terms, of two sheep").reads("q5;f9,0;f1,0;p2,1;");
        int[] above = {0, 1, 1, 3, 2, 1, 3, 7, 4, 9, 1}, below = {1, 10, 5, 10, 5, 2, 5, 10, 5, 10, 1};
        for (int c = 0; c <= 10; c++) fraction(x, "stay(0, 2, " + c, above[c], below[c]);
        x = town("27, of six sheep, all of five away").reads("q0;f1,0;f1,2;f1,2;f1,2;f1,2;f1,2;n6,0;");
        fraction(x, "stay(0, 6, 1", 1, 100000);
        fraction(x, "stay(0, 6, 9", 59049, 100000);
        fraction(x, "stay(0, 6, 5", 1, 32);
        fraction(x, "stay(0, 6, 2", 1, 3125);
        fraction(x, "stay(0, 6, 0", 0, 1);
        fraction(x, "stay(0, 6, 10", 1, 1);
        x = town("27, of six sheep, the last there").reads("q0;f1,0;f1,0;f1,0;f1,0;f1,0;f9,2;p1,1;").run("wind(5)");
        fraction(x, "stay(0, 6, 1", 9, 10);
        fraction(x, "stay(0, 5, 0", 0, 1);
        fraction(x, "stay(0, 6, 0", 1, 1);
        x = town("27, near 1").reads("q5;f1,0;f9,0;f9,0;f9,0;f9,0;f9,0;p1,1;");
        fraction(x, "stay(0, 2, 1", 99999, 100000);
        fraction(x, "stay(0, 2, 9", 40951, 100000);
    }

    private static void promise27FirstStays() {
        Town x = town("27, but the first of the row").reads("q5;f9,0;f1,0;p1,1;");
        fraction(x, "stay(0, 1, 7", 1, 1);
        x.run("change(0)");
        fraction(x, "stay(0, 1, 7", 0, 1);
        fraction(x, "stay(0, 2, 7", 3, 10);
        x = town("27, of one sheep").reads("q5;f9,0;p2,1;");
        for (int c = 0; c <= 10; c += 5) fraction(x, "stay(0, 1, " + c, 0, 1);
        for (int c = 0; c <= 10; c += 5) fraction(x, "stay(0, 2, " + c, 1, 1);
        x = town("27, STEP by how many are left").reads("q5;f9,0;f1,0;p3,1;").run("steps(1)");
        fraction(x, "stay(0, 1, 7", 0, 1);
        fraction(x, "stay(0, 2, 7", 7, 10);
    }

    /** A far one who, by WIND 5, hears the second sheep alone; each call is the first that is foretold behind its ACTS. */
    private static void now(int want, String call, String... acts) {
        Town x = town("3, from now, behind " + String.join(" ", acts)).reads("q0;f1,0;f9,0;p1,1;")
            .run("row(0, 0, 2)", "set(0, 1, 1)", "row(1, 0, 2)", "set(1, 0, 1)", "set(1, 1, 1)", "row(2, 0, 2)");
        x.run(acts).is(want, call);
    }

    private static void fromNow() {
        int[] windBlows = {0, 1, 1, 2, 2, 0, 2, 1, 1, 1, 2, 1, 2, 62, 7, 10};
        int[] changedToo = {1, 1, 1, 1, 1, 0, 1, 1, 1, 1, 2, 1, 2, 0, 1, 1};
        int[] tooWindy = {0, 0, 0, NONE, NONE, 1, NONE, NONE, NONE, NONE, NONE, 0, 3, 0, 0, 1};
        String[] calls = {"off(1)", "off(2)", "counted(0, 2)", "when(0)", "all(1)", "never()", "quiet(1)", "order(1, -1)", "order(1, 0)",
            "fewest(1, 99, 0)",
            "fewest(1, 99, 1)", "missing(1, 0, 2)", "missing(2, 0, 2)", "sorts(0, 0, 0, 2)", "stay(0, 2, 3, 0)", "stay(0, 2, 3, 1)"};
        for (int i = 0; i < calls.length; i++) {
            now(windBlows[i], calls[i], "wind(5)");
            now(windBlows[i], calls[i], "wind(5)", "change(0)", "undo()");
            now(windBlows[i], calls[i], "wind(5)", "image(0)", "steps(2)", "change(0)", "wind(9)", "restore(0)");
            now(windBlows[i], calls[i], "steps(2)", "wind(5)", "cough(0)");
            now(changedToo[i], calls[i], "wind(5)", "change(0)");
            now(changedToo[i], calls[i], "change(0)", "steps(2)", "wind(5)", "cough(0)");
            now(tooWindy[i], calls[i], "wind(9)");
            now(tooWindy[i], calls[i], "wind(9)", "change(0)");
        }
        now(1, "windy(1, 0, 2)", "wind(5)");
        now(510, "windy(0, 0, 2)", "wind(5)");
        now(511, "windy(1, 0, 2)", "wind(5)", "change(0)");
        now(0, "windy(0, 0, 2)", "change(0)");
        now(1023, "windy(1, 0, 2)", "steps(1)");
    }

    /** What was foretold ahead of a call leaves nothing for it. */
    private static void fromNowBehindOthers() {
        String[] calls = {"off(3)", "counted(1, 5)", "when(1)", "all(3)", "never()", "quiet(1)", "order(3, -1)", "order(3, 0)",
            "fewest(3, 20, 0)", "fewest(3, 20, 1)",
            "missing(0, 0, 2)", "windy(0, 0, 2)", "sorts(1, 0, 0, 2)", "stay(1, 4, 3, 0)"};
        for (String ahead : calls) {
            for (String call : calls) {
                int alone = several("alone").call(call);
                several("3, nothing changes: behind " + ahead).run(ahead).is(alone, call);
            }
        }
    }

    private static Town several(String sentence) {
        Town x = town(sentence).reads("q2;f1,0;f9,2;f3,1;p3,1;l2,0;").run("row(0, 0, 2)", "set(0, 0, 1)", "set(0, 1, 1)");
        return x.run("steps(2)", "wind(0)", "change(1)", "steps(1)");
    }
}
