/** Promises 6 to 8, and what a text may tell: each bound of THE TAPE, TOKENS, NUMBERS and FAULTS. */
final class TextBoundsTest {
    private static final int BAD = Town.BAD, STATE = Town.STATE, FULL = Town.FULL;
    private static final String SIX_SHEEP = "f0,0;".repeat(6), FIVE_SLEEPERS = "p1,0;".repeat(5);
    /** The longest text that is well told has 81 bytes. */
    private static final String LONGEST = "q09;" + "f09,03;".repeat(6) + "l60,01;".repeat(5);
    private static final Due due = new Due("TextBoundsTest");

    public static void main(String[] args) {
        promise6Letters();
        promise6Full();
        promise7Empty();
        promise7Longest();
        promise7TapeIsEmptyThen();
        numbers();
        runsOfFigures();
        howManySheep();
        howManySleepers();
        theEnd();
        whatCannotStandThere();
        figuresInPlaceOfOthers();
        firstTokenFirst();
        promise7AllStays();
        promise7InPlaceOfTheOneBefore();
        promise8();
        due.end();
    }

    private static Town town(String sentence) {
        return new Town(due, sentence);
    }

    private static void good(String text, int sleepers) {
        Town x = town("well told: " + text).feed(text).is(sleepers, "square()", "count(2)").is(0, "fault()", "count(7)", "off(0)");
        x.is(BAD, "kind(" + sleepers + ")");
    }

    private static void fault(String text, int number, int place) {
        Town x = town("a FAULT in: " + text).feed(text).is(-1000100 - place, "square()").is(number, "fault()");
        x.is(0, "count(7)", "count(1)", "count(2)").is(STATE, "off(0)");
    }

    private static void promise6Letters() {
        Town x = town("6, a byte (0 to 255)").is(BAD, "feed(MIN)", "feed(-1)", "feed(256)", "feed(257)", "feed(MAX)").is(0, "count(7)");
        x.is(1, "feed(0)").is(2, "feed(1)").is(3, "feed(254)").is(4, "feed(255)", "count(7)").is(BAD, "feed(-1)", "feed(256)")
            .is(4, "count(7)");
        x = town("6, what is BAD does not come behind").feed("q1;f").run("feed(-1)", "feed(256)").feed("5,0;");
        x.is(8, "count(7)").is(0, "square()").is(5, "sheep(0, 0)");
    }

    private static void promise6Full() {
        Town x = town("6, THE TAPE has at most 100 bytes");
        for (int i = 1; i <= 99; i++) x.is(i, "feed(0)");
        x.is(100, "feed(255)").is(FULL, "feed(0)", "feed(255)", "feed(113)").is(100, "count(7)");
        x.is(BAD, "feed(-1)", "feed(256)").is(100, "count(7)").is(-1000100, "square()").is(0, "count(7)").is(1, "feed(0)");
        x = town("6, FULL adds nothing").feed(LONGEST + "x".repeat(19)).is(FULL, "feed(112)").is(-1000181, "square()").is(1, "fault()");
    }

    private static void promise7Empty() {
        fault("", 1, 0);
        town("7, an empty tape leaves the SQUARE").reads("q3;f1,0;p1,0;").run("steps(1)").is(-1000100, "square()")
            .is(1, "count(3)", "count(6)", "off(0)");
    }

    private static void promise7Longest() {
        good(LONGEST, 5);
        Town x = town("7, the longest text").feed(LONGEST).is(81, "count(7)").is(5, "square()").is(9, "count(4)").is(6, "count(1)");
        x.is(9, "sheep(5, 0)").is(3, "sheep(5, 1)").is(60, "sleeper(4, 0)").is(1, "sleeper(4, 1)");
        good("q0;f0,0;", 0);
        fault(LONGEST + "x", 1, 81);
        fault(LONGEST + "l", 3, 81);
        fault(LONGEST + "f", 1, 81);
        fault(LONGEST + "1234567890123456789", 1, 81);
        fault("q1;f0,0;" + "p".repeat(92), 1, 9);
        fault("1".repeat(100), 1, 0);
        fault("q" + "0".repeat(99), 1, 1);
    }

    private static void promise7TapeIsEmptyThen() {
        Town x = town("7, the tape is empty then").reads("q1;f0,0;").is(0, "count(7)").is(-1000100, "square()");
        x.feed("q1;f0,").is(-1000106, "square()").is(0, "count(7)").feed("0;").is(-1000100, "square()");
        x.feed("q2;f0,0;").is(0, "square()").is(2, "count(4)");
    }

    /** Of a NUMBER that stands behind one text and ahead of another: least and most, and what is beyond them. */
    private static void number(String ahead, String behind, int least, int most, int sleepers) {
        int place = ahead.length();
        for (int v = 0; v < 100; v++) {
            if (v < least || v > most) fault(ahead + v + behind, 2, place);
            else good(ahead + v + behind, sleepers);
            if (v > 9) continue;
            if (v < least || v > most) fault(ahead + "0" + v + behind, 2, place);
            else good(ahead + "0" + v + behind, sleepers);
            fault(ahead + "00" + v + behind, 1, place);
        }
        fault(ahead + "100" + behind, 1, place);
        fault(ahead + behind, 1, place);
        fault(ahead + "-1" + behind, 1, place);
        fault(ahead + "+1" + behind, 1, place);
    }

    private static void numbers() {
        number("q", ";f0,0;", 0, 9, 0);
        number("q0;f", ",0;", 0, 9, 0);
        number("q0;f0,", ";", 0, 3, 0);
        number("q0;f0,0;f", ",0;d1,0;", 0, 9, 1);
        number("q0;f0,0;p", ",0;", 1, 60, 1);
        number("q0;f0,0;p1,", ";", 0, 1, 1);
        number("q0;f0,0;p1,0;l", ",1;", 1, 60, 2);
        Town x = town("WIND 0 to 9").reads("q0;f0,0;").is(0, "count(4)").reads("q9;f0,0;").is(9, "count(4)").reads("q09;f0,0;")
            .is(9, "count(4)");
        x = town("LOUD 0 to 9, COAT 0 to 3").reads("q0;f0,0;f9,3;f08,02;").are("sheep(0, ", 0, 0, 0).are("sheep(1, ", 9, 3, 1)
            .are("sheep(2, ", 8, 2, 2);
        x = town("NEEDS 1 to 60, SIDE 0, 1").reads("q0;f0,0;p1,0;p60,1;p09,00;p59,01;");
        x.are("sleeper(0, ", 1, 0).are("sleeper(1, ", 60, 1).are("sleeper(2, ", 9, 0).are("sleeper(3, ", 59, 1);
    }

    private static void runsOfFigures() {
        fault("q12;", 2, 1);
        fault("q123;", 1, 1);
        fault("q1234;", 1, 1);
        fault("q000;", 1, 1);
        fault("123", 1, 0);
        fault("12", 1, 0);
        fault("q1;f2,0123456789;", 1, 6);
        fault("q1;f2,0;p060,0;", 1, 9);
        fault("q1;f2,0;p60,000;", 1, 12);
        fault("q1;f2,0;p60,000", 1, 12);
        fault("q1;f2,0;p60,00", 1, 14);
    }

    private static void howManySheep() {
        fault("q0;", 1, 3);
        fault("q0;p1,0;", 1, 3);
        for (int many = 1; many <= 6; many++) {
            good("q0;" + "f0,0;".repeat(many), 0);
            good("q0;" + "f0,0;".repeat(many) + "n1,0;", 1);
            town("sheep as many as told").reads("q0;" + "f0,0;".repeat(many)).is(many, "count(1)").is(BAD, "sheep(" + many + ", 0)");
        }
        fault("q0;" + SIX_SHEEP + "f", 3, 33);
        fault("q0;" + SIX_SHEEP + "f0,0;", 3, 33);
        fault("q0;" + SIX_SHEEP + "f99,9;", 3, 33);
        fault("q0;" + SIX_SHEEP + "f0,0;p1,0;", 3, 33);
        fault("q0;" + SIX_SHEEP + "fx", 3, 33);
        fault("q0;" + SIX_SHEEP + "g", 1, 33);
        fault("q0;" + SIX_SHEEP + "p1,0;f0,0;", 1, 38);
        fault("q0;f0,0;p1,0;f0,0;", 1, 13);
    }

    private static void howManySleepers() {
        for (int many = 0; many <= 5; many++) good("q0;" + SIX_SHEEP + "t1,0;".repeat(many), many);
        for (char sort : "pdtnl".toCharArray()) {
            fault("q0;" + SIX_SHEEP + FIVE_SLEEPERS + sort, 3, 58);
            fault("q0;f0,0;" + FIVE_SLEEPERS + sort + "0,2;", 3, 33);
        }
        fault("q0;f0,0;" + FIVE_SLEEPERS + "x", 1, 33);
        fault("q0;f0,0;" + FIVE_SLEEPERS + "f", 1, 33);
        fault("q0;" + SIX_SHEEP + FIVE_SLEEPERS + "f", 1, 58);
        fault("q0;f0,0;" + FIVE_SLEEPERS + "1", 1, 33);
        fault("q0;f0,0;" + FIVE_SLEEPERS + ";", 1, 33);
    }

    private static void theEnd() {
        String whole = "q1;f2,3;p4,1;";
        for (int bytes = 0; bytes < whole.length(); bytes++) {
            if (bytes == 8) good(whole.substring(0, bytes), 0);
            else fault(whole.substring(0, bytes), 1, bytes);
        }
        good(whole, 1);
    }

    /** Each byte of a text in turn gives way to each byte that is no figure. */
    private static void whatCannotStandThere() {
        String whole = "q1;f2,3;p4,1;";
        for (int at = 0; at < whole.length(); at++) {
            for (char b = 0; b < 256; b++) {
                if (b >= '0' && b <= '9' || b == whole.charAt(at)) continue;
                String text = whole.substring(0, at) + b + whole.substring(at + 1);
                if (at == 8 && b == 'f') good(text, 0);
                else if (at == 8 && "dtnl".indexOf(b) >= 0) good(text, 1);
                else fault(text, 1, at);
            }
        }
        for (int b = 0; b < 256; b++) {
            if ("pdtnl".indexOf(b) < 0) fault(whole + (char) b, 1, 13);
        }
        fault("Q1;f2,3;", 1, 0);
        fault("q1;F2,3;", 1, 3);
        fault("q1;f2,3;P4,1;", 1, 8);
        fault(" q1;f2,3;", 1, 0);
        fault("q 1;f2,3;", 1, 1);
        fault("q1;f2,3;\n", 1, 8);
        fault("q1;q1;f2,3;", 1, 3);
        fault("q1;f2,3;q1;", 1, 8);
    }

    private static void figuresInPlaceOfOthers() {
        fault("51;f2,3;p4,1;", 1, 0);
        fault("q15f2,3;p4,1;", 2, 1);
        fault("q05f2,3;p4,1;", 1, 3);
        fault("q1;52,3;p4,1;", 1, 3);
        fault("q1;f253;p4,1;", 1, 4);
        fault("q1;f2,35p4,1;", 2, 6);
        fault("q1;f2,03p4,1;", 1, 8);
        fault("q1;f2,3;54,1;", 1, 8);
        fault("q1;f2,3;p451;", 1, 9);
        fault("q1;f2,3;p4,15", 2, 11);
        fault("q1;f2,3;p4,01", 1, 13);
    }

    private static void firstTokenFirst() {
        fault("q10;x", 2, 1);
        fault("q10", 2, 1);
        fault("q1,f10,0;", 1, 2);
        fault("q1;f10,9;", 2, 4);
        fault("q1;f9,9;p0,0;", 2, 6);
        fault("q1;f9,3;p0,2;", 2, 9);
        fault("q1;f9,3;p1,2x", 2, 11);
        fault("q1;f9,3;p1,1x", 1, 12);
        fault("q10;" + SIX_SHEEP + "f", 2, 1);
        fault("q0;" + SIX_SHEEP + "x", 1, 33);
        fault("q0;" + "f0,0;".repeat(5) + "f0,4;f", 2, 31);
    }

    private static void promise7AllStays() {
        String[] faulty = {"", "x", "q10;", "q5;f5,1;f5,1;l9,1;x", "q0;" + SIX_SHEEP + "f", "q5;f5,1;l9,1;d9,1;t0"};
        for (String text : faulty) {
            Town x = town("7, behind a FAULT all stays: " + text).reads("q3;f1,0;f9,2;f4,1;p2,0;n3,1;");
            x.run("steps(3)", "change(0)", "wind(2)", "image(1)", "cough(1)", "ask(1, 1)", "row(2, 0, 3)", "set(2, 3, 0)").feed(text);
            if (x.call("square()") > -1000100) throw new IllegalArgumentException(text);
            x.is(1, "count(0)", "off(0)").is(3, "count(1)", "count(3)").is(2, "count(2)", "count(4)", "status()").is(6, "count(6)");
            x.are("sleeper(0, ", 2, 0, 3, 1, 7).are("sleeper(1, ", 3, 1, 0, 0, 6).are("kind(", 1, 4, BAD).is(23, "trace(0)");
            x.are("sheep(0, ", 1, 0, 1).are("sheep(1, ", 9, 2, 0).are("sheep(2, ", 4, 1, 2).is(5, "undo()").is(1, "sleeper(1, 2)");
            x.is(1, "restore(1)").is(2, "count(4)").is(STATE, "restore(0)");
        }
    }

    private static void promise7InPlaceOfTheOneBefore() {
        Town x = town("7, in place of the one before: STEP 0, nobody COUNTED, nobody OFF, no ACT can be undone");
        x.reads("q3;f1,0;f9,2;f4,1;p1,0;n3,1;l1,0;").run("steps(4)", "change(0)", "wind(2)").is(5, "off(0)");
        x.reads("q3;f1,0;f9,2;f4,1;p1,0;n3,1;l1,0;").is(0, "count(3)", "count(5)", "count(6)", "off(0)").is(3, "count(4)")
            .is(STATE, "undo()");
        for (int s = 0; s < 3; s++) x.is(0, "sleeper(" + s + ", 2)", "sleeper(" + s + ", 3)").is(s, "sheep(" + s + ", 2)");
        x.is(5, "steps(1)").is(0, "undo()").is(0, "off(0)");
        x.reads("q0;f0,0;").is(0, "count(2)", "never()").is(1, "count(1)").is(BAD, "kind(0)", "sheep(1, 0)");
    }

    private static void promise8() {
        Town x = town("8, 0 before one").is(0, "fault()").reads("q0;f0,0;").is(0, "fault()");
        x = town("8, the latest FAULT").run("square()").is(1, "fault()").feed("q10;").is(-1000101, "square()").is(2, "fault()");
        x.feed("q0;" + SIX_SHEEP + "f").is(-1000133, "square()").is(3, "fault()").reads("q0;f0,0;").is(3, "fault()").run("square()")
            .is(1, "fault()");
        town("8, what is on the tape has none yet").feed("xyz").is(0, "fault()");
    }
}
