/** Promises 9 to 15, 28, 29, 34: each bound of STEPS, of what is COUNTED, of who is OFF, of ACTS and IMAGES. */
final class ActBoundsTest {
    private static final int BAD = Town.BAD, STATE = Town.STATE, FULL = Town.FULL;
    private static final String SIX_SHEEP = "f1,0;f2,1;f3,2;f4,3;f5,0;f6,1;";
    private static final Due due = new Due("ActBoundsTest");

    public static void main(String[] args) {
        promise9HowMany();
        promise9Full();
        promise9FullByOneCall();
        placeIsTheRest();
        placeIsTheRestFarOn();
        hearing();
        counting();
        countedAtMost99();
        offByNeeds();
        offStays();
        offNoMore();
        promise9AnActEach();
        promise10();
        promise10OneAndSixSheep();
        promise11();
        promise12();
        promise13None();
        promise13EachAct();
        promise13Kept24();
        promise13ForgottenAtOnce();
        promise14();
        promise15();
        promise28();
        promise29();
        promise29WhatIsKept();
        promise34();
        due.end();
    }

    private static Town town(String sentence) {
        return new Town(due, sentence);
    }

    private static void promise9HowMany() {
        Town x = town("9, STATE: no SQUARE (ahead of BAD)").is(STATE, "steps(1)", "steps(0)", "steps(25)", "steps(-1)", "steps(MAX)",
            "steps(MIN)");
        x = town("9, n STEPS (1 to 24)").reads("q0;f1,0;p24,0;p1,0;");
        x.is(BAD, "steps(MIN)", "steps(-1)", "steps(0)", "steps(25)", "steps(26)", "steps(MAX)").is(0, "count(3)", "count(6)", "off(0)");
        x.is(2, "steps(1)").is(1, "count(3)", "count(6)").is(2, "steps(22)").is(23, "count(3)").is(3, "steps(24)").is(47, "count(3)");
        town("9, 24 at once").reads("q0;f1,0;p24,0;p25,0;").is(1, "steps(24)").is(24, "count(3)", "count(6)").is(3, "steps(1)");
        town("9, who is OFF: nobody").reads("q0;f1,0;").is(0, "steps(24)");
        town("9, who is OFF: all five").reads("q0;f1,0;p1,0;d1,0;t1,0;n1,0;l1,0;").is(31, "steps(1)");
        town("9, who is OFF: the fifth").reads("q0;f1,0;p9,0;d9,0;t9,0;n9,0;l1,0;").is(16, "steps(1)");
    }

    private static void promise9Full() {
        Town x = town("9, FULL: beyond STEP 9999").reads("q0;f1,0;p1,0;");
        for (int i = 0; i < 416; i++) x.run("steps(24)");
        x.is(9984, "count(3)").is(FULL, "steps(16)", "steps(17)", "steps(24)").is(9984, "count(3)").is(24, "count(6)");
        x.is(1, "steps(14)").is(9998, "count(3)").is(FULL, "steps(2)", "steps(24)").is(BAD, "steps(0)", "steps(25)").is(9998, "count(3)");
        x.is(1, "steps(1)").is(9999, "count(3)").is(FULL, "steps(1)", "steps(2)", "steps(24)")
            .is(BAD, "steps(0)", "steps(-1)", "steps(25)");
        x.is(9999, "count(3)").is(99, "sleeper(0, 2)").is(1, "off(99)").is(99, "counted(0, 99)");
        x.is(23, "undo()").is(9998, "count(3)").is(FULL, "steps(2)").is(1, "steps(1)").is(FULL, "steps(1)");
        x.is(0, "wind(3)").is(99, "cough(0)").is(1, "image(0)", "restore(0)").is(9999, "count(3)").is(FULL, "steps(1)");
        x.reads("q0;f1,0;p1,0;").is(1, "steps(24)").is(24, "count(3)");
    }

    private static void promise9FullByOneCall() {
        Town x = town("9, STEP 9999 by the most STEPS of a call").reads("q0;f1,0;").run("steps(15)");
        for (int i = 0; i < 415; i++) x.run("steps(24)");
        x.is(9975, "count(3)").is(0, "steps(24)").is(9999, "count(3)").is(FULL, "steps(24)", "steps(1)");
    }

    /** A far one who hears one sheep alone tells when that one goes by. */
    private static void placeIsTheRest() {
        for (int many = 1; many <= 6; many++) {
            for (int heard = 0; heard < many; heard++) {
                Town x = town("2, the sheep at STEP by how many, " + heard + " of " + many);
                x.reads("q5;" + "f5,0;".repeat(heard) + "f6,0;" + "f5,0;".repeat(many - 1 - heard) + "p60,1;");
                for (int step = 0; step < 3 * many; step++) {
                    int before = step / many + (step % many > heard ? 1 : 0);
                    x.is(before, "sleeper(0, 2)").is(step, "count(3)").run("steps(1)");
                }
            }
        }
    }

    private static void placeIsTheRestFarOn() {
        Town x = town("2, the rest of STEP 9999 by 6 is 3").reads("q5;f1,0;f1,0;f1,0;f9,0;f1,0;f1,0;p60,1;");
        for (int i = 0; i < 416; i++) x.run("steps(24)");
        x.run("steps(15)").is(9999, "count(3)").is(99, "cough(0)").is(0, "counted(0, 0)").is(1, "counted(0, 1)", "counted(0, 6)")
            .is(2, "counted(0, 7)");
        x.is(17, "counted(0, 99)").is(1, "counted(0, 5)");
    }

    private static void hearing() {
        Town x = town("2, LOUDER than WIND, or near").reads("q4;f3,0;f4,0;f5,0;f0,0;f9,0;p9,1;p9,0;");
        x.is(20, "sleeper(0, 4)").is(31, "sleeper(1, 4)").run("wind(0)").is(23, "sleeper(0, 4)").run("wind(9)").is(0, "sleeper(0, 4)")
            .is(31, "sleeper(1, 4)");
        x.run("wind(8)").is(16, "sleeper(0, 4)").run("wind(3)").is(22, "sleeper(0, 4)").run("wind(2)").is(23, "sleeper(0, 4)");
        x = town("2, of WIND 4 LOUD 4 is not heard, LOUD 5 is").reads("q4;f4,0;f5,0;p9,1;p9,0;");
        x.run("steps(1)").is(0, "sleeper(0, 2)").is(1, "sleeper(1, 2)").run("steps(1)").is(1, "sleeper(0, 2)").is(2, "sleeper(1, 2)");
        x = town("2, who does not HEAR a bell is not disturbed").reads("q4;f5,0;f4,3;n2,1;l1,1;d9,1;t9,1;").run("steps(2)");
        x.is(2, "off(0)").is(1, "sleeper(0, 2)", "sleeper(1, 2)", "sleeper(3, 2)").is(2, "sleeper(2, 2)").is(3, "steps(1)");
    }

    /** What each of p, d, t, n, l has COUNTED behind a sheep of each COAT, from 5 on. */
    private static void counting() {
        int[][] want = {{6, 7, 6, 6, 6}, {6, 6, 6, 6, 6}, {6, 7, 5, 0, 0}, {6, 6, 5, 0, 0}};
        for (int coat = 0; coat < 4; coat++) {
            Town x = town("2, COAT " + coat).reads("q0;f1,1;f1,1;f1,1;f1,1;f1,1;f1," + coat + ";p60,0;d60,0;t60,0;n60,0;l60,0;")
                .run("steps(5)");
            for (int s = 0; s < 5; s++) x.is(5, "sleeper(" + s + ", 2)").is(want[coat][s], "counted(" + s + ", 1)");
            x.run("steps(1)");
            for (int s = 0; s < 5; s++) x.is(want[coat][s], "sleeper(" + s + ", 2)");
        }
    }

    private static void countedAtMost99() {
        Town x = town("2, 99 at most are COUNTED").reads("q0;f1,1;p60,0;d60,0;t60,0;n60,0;l60,0;")
            .run("steps(24)", "steps(24)", "steps(24)", "steps(24)", "steps(2)");
        for (int s = 0; s < 5; s++) x.is(98, "sleeper(" + s + ", 2)");
        x.run("steps(1)");
        for (int s = 0; s < 5; s++) x.is(99, "sleeper(" + s + ", 2)");
        x.run("steps(1)");
        for (int s = 0; s < 5; s++) x.is(99, "sleeper(" + s + ", 2)", "cough(" + s + ")").is(0, "sleeper(" + s + ", 2)");
        x = town("2, 99 at most, by 2 from 98").reads("q0;f1,0;d60,0;").run("steps(24)", "steps(24)", "steps(1)").is(98, "sleeper(0, 2)");
        x.run("steps(1)").is(99, "sleeper(0, 2)").run("steps(1)").is(99, "sleeper(0, 2)").run("undo()", "undo()").is(98, "sleeper(0, 2)");
        x = town("2, 99 at most, by 2 from 97").reads("q0;f1,0;f1,1;d60,0;").run("steps(24)", "steps(24)", "steps(16)");
        x.is(96, "sleeper(0, 2)").run("change(0)", "steps(1)").is(97, "sleeper(0, 2)").run("steps(1)").is(99, "sleeper(0, 2)");
        x = town("2, from 99 a bell leads to 0").reads("q5;f6,0;f5,3;n60,1;l60,1;t60,1;");
        for (int i = 0; i < 9; i++) x.run("steps(24)");
        x.is(7, "off(0)").is(99, "sleeper(0, 2)", "sleeper(1, 2)").run("wind(0)", "steps(1)").is(99, "sleeper(0, 2)").run("steps(1)");
        x.is(0, "sleeper(0, 2)", "sleeper(1, 2)").is(99, "sleeper(2, 2)").is(5, "off(0)");
    }

    private static void offByNeeds() {
        Town x = town("2, has COUNTED what he NEEDS").reads("q0;f1,1;p1,0;p2,0;p3,0;n4,0;l5,0;");
        x.is(0, "off(0)").is(1, "steps(1)").is(3, "steps(1)").is(7, "steps(1)").is(15, "steps(1)").is(31, "steps(1)");
        x = town("2, or more").reads("q0;f1,0;d1,0;d2,0;d3,0;d4,0;d5,0;").is(3, "steps(1)").is(15, "steps(1)").is(31, "steps(1)");
        x = town("2, NEEDS 60").reads("q0;f1,0;p60,0;d60,0;").run("steps(24)").is(0, "steps(5)").is(2, "steps(1)").run("steps(24)")
            .is(2, "steps(5)").is(3, "steps(1)");
    }

    private static void offStays() {
        Town x = town("2, who is OFF stays so, whatever he has COUNTED").reads("q0;f1,0;f1,3;n1,0;l1,0;t1,0;d1,0;p1,0;").is(31, "steps(1)");
        x.is(29, "steps(1)").is(0, "sleeper(0, 2)", "sleeper(1, 2)").is(1, "sleeper(0, 3)").is(0, "sleeper(1, 3)").is(1, "sleeper(2, 2)");
        x.is(31, "steps(1)").run("wind(9)").is(29, "steps(1)");
    }

    private static void offNoMore() {
        Town x = town("2, a light one by a bell he HEARS").reads("q2;f3,1;f2,2;f3,3;l1,0;l1,1;").is(3, "steps(1)").is(2, "steps(1)")
            .is(0, "steps(1)").is(3, "steps(1)");
        x = town("2, each by a COUGH").reads("q0;f1,1;p2,0;d2,0;t2,0;n2,0;l2,0;").is(31, "steps(2)");
        for (int s = 0; s < 5; s++) x.is(2, "cough(" + s + ")").is(0, "sleeper(" + s + ", 3)", "sleeper(" + s + ", 2)")
            .is(31 & ~((2 << s) - 1), "off(0)");
        x.is(0, "steps(1)").is(31, "steps(1)");
    }

    private static void promise9AnActEach() {
        Town x = town("9, an ACT each").reads("q0;f1,0;f1,3;p1,0;l1,0;").run("steps(3)").is(3, "count(6)", "off(0)");
        x.is(2, "undo()").is(1, "off(0)").is(1, "undo()").is(3, "off(0)").is(0, "undo()").is(0, "off(0)", "count(3)").is(STATE, "undo()");
    }

    private static void promise10() {
        Town x = town("10, BAD: no such place, no SQUARE").is(BAD, "change(0)", "change(-1)", "change(5)", "change(6)");
        x = town("10, BAD: no such place; STATE: none is behind it").reads("q0;f1,0;f2,1;f3,2;");
        x.is(BAD, "change(MIN)", "change(-1)", "change(3)", "change(4)", "change(MAX)").is(STATE, "change(2)").is(0, "count(6)");
        for (int h = 0; h < 3; h++) x.is(h, "sheep(" + h + ", 2)");
        x.is(2, "change(1)").is(1, "sheep(2, 2)").is(2, "sheep(1, 2)").is(2, "change(0)").is(0, "sheep(2, 2)").is(1, "sheep(0, 2)")
            .is(2, "count(6)");
    }

    private static void promise10OneAndSixSheep() {
        Town x = town("10, of one sheep").reads("q0;f1,0;p9,0;").is(STATE, "change(0)").is(BAD, "change(1)", "change(-1)")
            .is(0, "count(6)");
        x = town("10, of six sheep").reads("q0;" + SIX_SHEEP).is(STATE, "change(5)").is(BAD, "change(6)").is(5, "change(4)")
            .is(4, "sheep(5, 2)").is(5, "sheep(4, 2)");
        x.is(5, "change(3)", "change(2)", "change(1)", "change(0)").are("count(", 0, 6);
        int[] places = {1, 2, 3, 4, 5, 0};
        for (int h = 0; h < 6; h++) x.is(places[h], "sheep(" + h + ", 2)").is(h + 1, "sheep(" + h + ", 0)");
        x = town("10, which goes by then").reads("q5;f6,0;f5,0;p9,1;").is(1, "change(0)").run("steps(1)").is(0, "sleeper(0, 2)")
            .run("steps(1)").is(1, "sleeper(0, 2)");
        x.is(0, "change(0)").run("steps(1)").is(2, "sleeper(0, 2)");
    }

    private static void promise11() {
        Town x = town("11, STATE: no SQUARE (ahead of BAD)").is(STATE, "wind(0)", "wind(9)", "wind(-1)", "wind(10)", "wind(MAX)")
            .is(0, "count(4)");
        x = town("11, WIND is v (0 to 9)").reads("q4;f5,0;").is(BAD, "wind(MIN)", "wind(-1)", "wind(10)", "wind(11)", "wind(MAX)")
            .is(4, "count(4)").is(0, "count(6)");
        x.is(4, "wind(0)").is(0, "count(4)", "wind(9)").is(9, "count(4)", "wind(1)").is(1, "wind(8)").is(8, "count(4)").is(4, "count(6)");
        x = town("11, the WIND that blows already").reads("q4;f5,0;").is(4, "wind(4)", "count(4)").is(1, "count(6)").is(0, "undo()")
            .is(4, "count(4)");
    }

    private static void promise12() {
        town("12, BAD: no SQUARE").is(BAD, "cough(0)", "cough(-1)", "cough(4)");
        town("12, BAD: nobody there").reads("q0;f1,0;").is(BAD, "cough(0)", "cough(-1)").is(0, "count(6)");
        Town x = town("12, a sleeper COUGHS").reads("q0;f1,0;p60,0;p1,0;p1,0;p1,0;d60,0;").run("steps(2)");
        x.is(BAD, "cough(MIN)", "cough(-1)", "cough(5)", "cough(6)", "cough(MAX)").is(2, "count(6)").is(14, "off(0)");
        x.is(2, "cough(0)").is(4, "cough(4)").is(0, "cough(0)", "cough(4)").is(14, "off(0)").is(6, "count(6)").is(2, "cough(2)")
            .is(10, "off(0)");
        x.is(6, "undo()").is(14, "off(0)").is(2, "sleeper(2, 2)");
        x = town("12, of three sleepers").reads("q0;f1,0;p9,0;p9,0;p9,0;").is(BAD, "cough(3)").is(0, "cough(2)").is(1, "count(6)");
    }

    private static void promise13None() {
        town("13, STATE: none, no SQUARE").is(STATE, "undo()", "undo()").is(0, "count(6)");
        Town x = town("13, STATE: none").reads("q0;f1,0;f1,0;p9,0;").is(STATE, "undo()").run("steps(1)").is(0, "undo()")
            .is(STATE, "undo()", "undo()").is(0, "count(3)", "count(6)");
        x.run("steps(0)", "steps(25)", "wind(10)", "wind(-1)", "cough(1)", "change(1)", "change(2)", "image(0)", "off(9)")
            .is(STATE, "undo()");
        x = town("13, no ACT can be undone behind a new SQUARE").reads("q0;f1,0;p9,0;").run("steps(24)").reads("q0;f1,0;p9,0;")
            .is(STATE, "undo()").is(0, "count(6)");
        x.run("steps(2)").is(1, "undo()").is(0, "undo()").is(STATE, "undo()").is(0, "count(3)");
        x = town("13, nor behind an IMAGE").reads("q0;f1,0;p9,0;").run("steps(24)", "image(0)", "steps(3)", "restore(0)")
            .is(STATE, "undo()").is(24, "count(3)");
        x.run("steps(2)").is(1, "undo()").is(0, "undo()").is(STATE, "undo()").is(24, "count(3)");
    }

    private static void promise13EachAct() {
        Town x = town("13, the latest ACT first").reads("q3;f4,0;f3,3;p1,1;l1,0;")
            .run("steps(1)", "cough(0)", "wind(2)", "change(0)", "steps(1)");
        x.is(2, "count(3)", "count(4)").is(1, "sheep(0, 2)").is(5, "count(6)").is(3, "off(0)");
        x.is(4, "undo()").is(1, "count(3)").is(2, "off(0)").is(1, "sheep(0, 2)").is(3, "undo()").is(0, "sheep(0, 2)").is(1, "sheep(1, 2)")
            .is(2, "count(4)");
        x.is(2, "undo()").is(3, "count(4)").is(0, "sleeper(0, 2)").is(1, "undo()", "sleeper(0, 2)", "sleeper(0, 3)").is(3, "off(0)");
        x.is(0, "undo()", "off(0)", "count(3)", "sleeper(0, 2)", "sleeper(1, 2)").is(STATE, "undo()");
    }

    private static void promise13Kept24() {
        for (int acts = 23; acts <= 26; acts++) {
            Town x = town("13, 24 at most are kept, of " + acts).reads("q0;f1,0;f1,0;p60,0;");
            for (int i = 0; i < acts; i++) x.run("steps(1)").is(Math.min(24, i + 1), "count(6)");
            for (int left = Math.min(24, acts) - 1; left >= 0; left--) x.is(left, "undo()", "count(6)");
            x.is(STATE, "undo()").is(Math.max(0, acts - 24), "count(3)", "sleeper(0, 2)");
        }
        Town x = town("13, of more the oldest is forgotten, of each kind").reads("q1;f2,0;f2,1;p60,0;")
            .run("wind(7)", "change(0)", "steps(1)", "cough(0)");
        x.run("steps(20)").is(24, "count(6)").run("steps(1)").is(24, "count(6)").run("steps(1)", "wind(5)").is(24, "count(6)");
        for (int left = 23; left >= 0; left--) x.is(left, "undo()");
        x.is(STATE, "undo()").is(7, "count(4)").is(1, "sheep(0, 2)", "count(3)", "sleeper(0, 2)").is(7, "wind(1)").is(0, "undo()")
            .is(7, "count(4)");
    }

    private static void promise13ForgottenAtOnce() {
        Town x = town("13, 24 of the second 24").reads("q0;f1,0;p60,0;").run("steps(24)", "steps(24)").is(24, "count(6)");
        for (int left = 23; left >= 0; left--) x.is(left, "undo()");
        x.is(STATE, "undo()").is(24, "count(3)", "sleeper(0, 2)").run("steps(24)").is(24, "count(6)").is(48, "count(3)").is(23, "undo()")
            .is(47, "count(3)");
        x = town("13, half of them undone, others in their place").reads("q0;f1,0;p60,0;").run("steps(24)");
        for (int i = 0; i < 12; i++) x.run("undo()");
        x.run("steps(20)").is(32, "count(3)").is(24, "count(6)");
        for (int left = 23; left >= 0; left--) x.is(left, "undo()").is(8 + left, "count(3)");
        x.is(STATE, "undo()").is(8, "count(3)");
    }

    private static void promise14() {
        town("14, BAD: no SQUARE").is(BAD, "sleeper(0, 0)", "sleeper(0, 4)", "sleeper(-1, 0)");
        town("14, BAD: nobody there").reads("q0;f1,0;").is(BAD, "sleeper(0, 0)", "sleeper(-1, 0)");
        Town x = town("14, BAD").reads("q4;" + SIX_SHEEP + "p1,0;d60,1;t5,0;n5,1;l7,1;");
        x.is(BAD, "sleeper(MIN, 0)", "sleeper(-1, 0)", "sleeper(5, 0)", "sleeper(6, 0)", "sleeper(MAX, 0)", "sleeper(5, 5)");
        x.is(BAD, "sleeper(0, MIN)", "sleeper(0, -1)", "sleeper(0, 5)", "sleeper(4, 6)", "sleeper(0, MAX)");
        x.are("sleeper(0, ", 1, 0, 0, 0, 63).are("sleeper(1, ", 60, 1, 0, 0, 48).are("sleeper(4, ", 7, 1, 0, 0, 48, BAD);
        x.run("steps(1)").are("sleeper(0, ", 1, 0, 1, 1, 63).are("sleeper(1, ", 60, 1, 0, 0, 48);
        x = town("14, sheep he HEARS, by their numbers").reads("q4;f5,0;f4,0;f9,0;p9,1;").is(5, "sleeper(0, 4)")
            .run("change(0)", "change(1)").is(5, "sleeper(0, 4)");
    }

    private static void promise15() {
        town("15, BAD: no SQUARE").is(BAD, "sheep(0, 0)", "sheep(0, 2)", "sheep(-1, 0)");
        Town x = town("15, BAD").reads("q0;f0,0;f9,3;f4,2;");
        x.is(BAD, "sheep(MIN, 0)", "sheep(-1, 0)", "sheep(3, 0)", "sheep(4, 2)", "sheep(MAX, 0)", "sheep(0, MIN)", "sheep(0, -1)",
            "sheep(0, 3)", "sheep(0, MAX)");
        x.are("sheep(0, ", 0, 0, 0, BAD).are("sheep(1, ", 9, 3, 1).are("sheep(2, ", 4, 2, 2);
        x = town("15, six sheep").reads("q0;" + SIX_SHEEP).are("sheep(5, ", 6, 1, 5, BAD).is(BAD, "sheep(6, 0)", "sheep(7, 0)");
        town("15, no such sheep of a smaller SQUARE").reads("q0;" + SIX_SHEEP).reads("q0;f1,1;").are("sheep(0, ", 1, 1, 0)
            .is(BAD, "sheep(1, 0)", "sheep(5, 2)");
    }

    private static void promise28() {
        town("28, BAD; STATE: no SQUARE").is(BAD, "image(MIN)", "image(-1)", "image(2)", "image(MAX)").is(STATE, "image(0)", "image(1)")
            .is(STATE, "restore(0)", "restore(1)");
        Town x = town("28, an IMAGE (0, 1)").reads("q1;f1,0;p9,0;").is(BAD, "image(MIN)", "image(-1)", "image(2)", "image(3)",
            "image(MAX)");
        x.is(STATE, "restore(0)", "restore(1)").is(1, "image(0)").is(STATE, "restore(1)").run("steps(3)").is(1, "image(1)")
            .is(3, "count(6)");
        x.is(1, "restore(0)").is(0, "count(3)").is(1, "restore(1)").is(3, "count(3)").run("steps(1)").is(1, "image(0)", "image(0)")
            .run("steps(1)");
        x.is(1, "restore(0)").is(4, "count(3)").is(1, "restore(1)").is(3, "count(3)");
        x = town("28, kept anew").reads("q1;f1,0;p9,0;").run("image(1)", "steps(2)").is(1, "image(1)").run("steps(2)").is(1, "restore(1)")
            .is(2, "count(3)");
    }

    private static void promise29() {
        town("29, BAD; STATE: none was kept, no SQUARE").is(BAD, "restore(MIN)", "restore(-1)", "restore(2)", "restore(MAX)")
            .is(STATE, "restore(0)", "restore(1)");
        Town x = town("29, BAD; STATE: none was kept").reads("q1;f1,0;p9,0;").run("steps(2)").is(BAD, "restore(-1)", "restore(2)")
            .is(STATE, "restore(0)", "restore(1)");
        x.is(2, "count(3)", "count(6)").run("image(1)").is(STATE, "restore(0)").is(BAD, "restore(2)").is(2, "count(6)").is(1, "restore(1)")
            .is(0, "count(6)").is(STATE, "undo()");
        x = town("29, again and again").reads("q1;f1,0;p9,0;").run("image(0)");
        for (int i = 0; i < 3; i++) x.run("steps(5)").is(5, "count(3)").is(1, "restore(0)").is(0, "count(3)", "count(6)")
            .is(STATE, "undo()");
        x = town("29, an undone ACT stays in an IMAGE").reads("q1;f1,0;p1,0;").run("steps(1)", "image(0)", "undo()").is(0, "off(0)")
            .is(1, "restore(0)", "off(0)", "count(3)");
        x = town("29, a faulty text leaves IMAGES").reads("q1;f1,0;").run("image(0)", "square()").is(1, "restore(0)")
            .is(STATE, "restore(1)");
    }

    private static void promise29WhatIsKept() {
        Town x = town("29, as an IMAGE kept it").reads("q4;" + SIX_SHEEP + "p1,0;d60,1;t5,0;n5,1;l7,1;")
            .run("steps(2)", "change(0)", "change(3)", "wind(1)", "cough(2)", "image(0)");
        x.reads("q9;f9,1;l9,1;").run("steps(7)", "image(1)").is(1, "restore(0)");
        x.are("count(", 0, 6, 5, 2, 1, 1, 0, 0).is(1, "off(0)").are("kind(", 1, 2, 3, 4, 5, BAD);
        int[] places = {1, 0, 2, 4, 3, 5};
        for (int h = 0; h < 6; h++) x.is(h + 1, "sheep(" + h + ", 0)").is(h % 4, "sheep(" + h + ", 1)")
            .is(places[h], "sheep(" + h + ", 2)");
        x.are("sleeper(0, ", 1, 0, 2, 1, 63).are("sleeper(1, ", 60, 1, 0, 0, 62).are("sleeper(2, ", 5, 0, 0, 0, 63)
            .are("sleeper(4, ", 7, 1, 0, 0, 62);
        x.run("steps(9)", "wind(0)", "change(0)").is(1, "restore(1)").are("count(", 0, 1, 1, 7, 9, 0, 0, 0).are("sheep(0, ", 9, 1, 0)
            .are("sleeper(0, ", 9, 1, 0, 0, 0);
        x.is(BAD, "sheep(1, 0)", "sleeper(1, 0)").is(1, "restore(0)").are("count(", 0, 6, 5, 2, 1, 1, 0, 0).is(1, "sheep(0, 2)");
    }

    private static void promise34() {
        Town x = town("34, BAD").is(BAD, "count(MIN)", "count(-1)", "count(8)", "count(9)", "count(MAX)")
            .are("count(", 0, 0, 0, 0, 0, 0, 0, 0, BAD);
        x = town("34, the most of each").reads("q9;" + SIX_SHEEP + "p1,0;d1,0;t1,0;n1,0;l1,0;");
        for (int row = 0; row < 8; row++) x.run("row(" + row + ", 0, 0)");
        for (int i = 0; i < 101; i++) x.run("feed(0)");
        x.run("steps(24)", "steps(1)").are("count(", 8, 6, 5, 25, 9, 5, 24, 100);
        x = town("34, none of each").reads("q0;f1,0;").are("count(", 0, 1, 0, 0, 0, 0, 0, 0);
    }
}
