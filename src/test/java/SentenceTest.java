/** Promises 33 and 34: sentence, said. */
public final class SentenceTest {
    public static void main(String[] args) {
        said();
        asked();
        joined();
        cantCome();
        names();
        tooMany();
        tooLong();
        stays();
        withoutReach();
        Check.close();
    }

    /** Half of what is in 'a' goes on in each HOUR; GUILD g works in HOURS 0, 1, h in 24. */
    private static Bells made() {
        Bells x = new Bells();
        Check.river(x, "reach a 100 0;reach b 50 0;colour c;colour d;guild g a 2 c 100 d 10;guild h b 1 d 7;user u a 0 24 c 20;"
            + "flow 0 50;flow 1 50;flow 2 50;flow 3 50;flow 4 50;flow 5 50;flow 6 50;");
        x.ring(0, 0, 2);
        x.ring(24, 1, 1);
        return x;
    }

    private static void said(Bells x, String text, int ones, int hours) {
        Check.due("sentence of '" + text + "'", ones, Check.sentence(x, text));
        Check.due("fault of '" + text + "'", 0, x.fault());
        Check.due("said of '" + text + "'", hours, x.said(-1));
    }

    /** In 'a' behind the HOURS 0 .. of c 50, 75, 38, 19, 10, 5, 3, 2, 1, 1 ..; of d 5, 8, 4, 2, 1, 1 ... */
    private static void said() {
        Bells x = made();
        said(x, "works g", 1, 2);
        said(x, "works h", 1, 1);
        Check.due("the HOUR", 24, x.said(0));
        said(x, "harmed u", 1, 3);
        said(x, "shade c a>37", 1, 3);
        said(x, "shade c a = 38", 1, 1);
        Check.due("the HOUR", 2, x.said(0));
        said(x, "shade d a<5", 1, 166);
        said(x, "hour<3", 1, 3);
        said(x, "hour=167", 1, 1);
        said(x, "hour>165", 1, 2);
        said(x, "hour<9999", 1, 168);
        said(x, "day=6", 1, 24);
        Check.due("the first", 144, x.said(0));
        Check.due("the last", 167, x.said(23));
        said(x, "day>6", 1, 0);
        said(x, "day<1", 1, 24);
        int both = 0;
        for (int h = 0; h < 168; h++) {
            both += x.passed(h, 0) + x.passed(h, 1) > 5 ? 1 : 0;
        }
        said(x, "passed>5", 1, both);
        said(x, "passed=" + (x.passed(1, 0) + x.passed(1, 1)), 1, 1);
        Check.due("PASSED of both COLOURS", 1, x.said(0));
        Check.due("SHADE of 50 in 50", 100, x.at(0, 1, 0, 2));
        inOtherReach();
        x.ring(100, 0, 1);
        said(x, "works g", 1, 3);
        x.undo();
        Check.due("it is said anew", 2, x.said(-1));
    }

    private static void inOtherReach() {
        Bells x = made();
        int inB = 0;
        for (int h = 0; h < 168; h++) {
            inB += x.at(h, 1, 0, 2) > 60 ? 1 : 0;
        }
        said(x, "shade c b>60", 1, inB);
        Check.due("not as in the other REACH", true, inB != 2 && inB != 0);
    }

    private static void asked() {
        Bells x = made();
        Check.due("no SENTENCE", -1, x.said(-1));
        Check.due("no SENTENCE", -1, x.said(0));
        Check.sentence(x, "works g");
        Check.due("the first", 0, x.said(0));
        Check.due("the second", 1, x.said(1));
        Check.due("no third", -1, x.said(2));
        Check.due("k -2", -1, x.said(-2));
        Check.due("k the least", -1, x.said(Integer.MIN_VALUE));
        Check.due("k the greatest", -1, x.said(Integer.MAX_VALUE));
    }

    private static void joined() {
        Bells x = made();
        said(x, "hour=0 or hour=1 and hour=2", 3, 1);
        said(x, "(hour=0 or hour=1) and hour=2", 4, 0);
        said(x, "hour=2 and hour=1 or hour=0", 3, 1);
        said(x, "not hour=0 and hour<3", 3, 2);
        said(x, "not(hour=0 and hour<3)", 4, 167);
        said(x, "not not hour=0", 3, 1);
        said(x, "((hour=0))", 3, 1);
        said(x, "not hour=0 or not hour=1", 4, 168);
        said(x, "hour=0 or hour=1 or hour=2 or hour=3", 4, 4);
        said(x, "hour>0 and hour<9 and hour>4 and not day=1", 5, 4);
        said(x, "works g and not harmed u or works h", 4, 1);
        said(x, "\n works\ng or(works h)", 3, 3);
    }

    private static void cantCome() {
        Bells x = made();
        Check.sentenceFault(x, "", 1, 0);
        Check.sentenceFault(x, "  ", 1, 2);
        Check.sentenceFault(x, "g", 1, 0);
        Check.sentenceFault(x, "5", 1, 0);
        Check.sentenceFault(x, "or", 1, 0);
        Check.sentenceFault(x, "works", 1, 5);
        Check.sentenceFault(x, "works 5", 1, 6);
        Check.sentenceFault(x, "works works", 1, 6);
        Check.sentenceFault(x, "works guild", 1, 6);
        Check.sentenceFault(x, "works g;", 1, 7);
        Check.sentenceFault(x, "works g works h", 1, 8);
        Check.sentenceFault(x, "works g)", 1, 7);
        Check.sentenceFault(x, "(works g", 1, 8);
        Check.sentenceFault(x, "(works g;", 1, 8);
        Check.sentenceFault(x, "()", 1, 1);
        Check.sentenceFault(x, "not", 1, 3);
        Check.sentenceFault(x, "not and", 1, 4);
        Check.sentenceFault(x, "works g or", 1, 10);
        Check.sentenceFault(x, "works g and or works h", 1, 12);
        Check.sentenceFault(x, "hour 5", 1, 5);
        Check.sentenceFault(x, "hour>>5", 1, 5);
        Check.sentenceFault(x, "hour>x", 1, 5);
        Check.sentenceFault(x, "hour>12345", 1, 5);
        Check.sentenceFault(x, "shade c a 5", 1, 10);
        Check.sentenceFault(x, "shade c>5", 1, 7);
        Check.sentenceFault(x, "flow>5", 1, 0);
        Check.sentenceFault(x, "works g.", 1, 7);
    }

    private static void names() {
        Bells x = made();
        Check.sentenceFault(x, "works x", 3, 6);
        Check.sentenceFault(x, "works u", 3, 6);
        Check.sentenceFault(x, "works c", 3, 6);
        Check.sentenceFault(x, "works a", 3, 6);
        Check.sentenceFault(x, "harmed a", 3, 7);
        Check.sentenceFault(x, "harmed c", 3, 7);
        Check.sentenceFault(x, "shade g a>5", 3, 6);
        Check.sentenceFault(x, "shade u a>5", 3, 6);
        Check.sentenceFault(x, "shade c g>5", 3, 8);
        Check.sentenceFault(x, "harmed g", 3, 7);
        Check.sentenceFault(x, "shade a c>5", 3, 6);
        Check.sentenceFault(x, "shade c c>5", 3, 8);
        Check.sentenceFault(x, "shade c x", 3, 8);
        Check.sentenceFault(x, "hour>5 or works x or", 3, 16);
    }

    private static void tooMany() {
        Bells x = made();
        String twenty = "day=1" + " or day=1".repeat(19);
        said(x, twenty, 20, 24);
        Check.sentenceFault(x, twenty + " or day=1", 4, twenty.length() + 4);
        Check.sentenceFault(x, twenty + " or not", 4, twenty.length() + 4);
        Check.sentenceFault(x, twenty + " or (", 4, twenty.length() + 4);
        Check.sentenceFault(x, twenty + " or x", 1, twenty.length() + 4);
        Check.sentenceFault(x, twenty + " x", 1, twenty.length() + 1);
        StringBuilder unlike = new StringBuilder("hour=0");
        for (int i = 1; i < 14; i++) {
            unlike.append(" or hour=").append(i);
        }
        for (int i = 1; i < 7; i++) {
            unlike.append(" or day=").append(i);
        }
        said(x, unlike.toString(), 20, 14 + 144);
        said(x, "day=1" + " and day=1".repeat(19), 20, 24);
        Check.sentenceFault(x, "not day=1" + " and day=1".repeat(18) + " and day=1", 4, 194);
        String nineteen = "day=1" + " and day=1".repeat(18);
        Check.sentenceFault(x, nineteen.replace(" and ", " or ") + " or not day=1", 4, nineteen.length() - 18 + 8);
        said(x, "not ".repeat(7) + "day=1", 8, 144);
        Check.sentenceFault(x, "not ".repeat(8) + "day=1", 4, 32);
        said(x, "(".repeat(7) + "day=1" + ")".repeat(7), 8, 24);
        Check.sentenceFault(x, "(".repeat(8) + "day=1" + ")".repeat(8), 4, 8);
        Check.sentenceFault(x, "(".repeat(9) + "day=1" + ")".repeat(9), 4, 8);
        Check.sentenceFault(x, "(not ".repeat(4) + "x", 1, 20);
        said(x, "(not ".repeat(3) + "(day=1 and day=2) or day=3" + ")".repeat(3), 10, 168);
        said(x, "((((day=1)))) and ((((day=1))))", 10, 24);
        said(x, "((((((day=1)or day=2)or day=3)or day=4)or day=5)or day=6)", 12, 144);
    }

    private static void tooLong() {
        Bells x = made();
        said(x, "works g" + " ".repeat(193), 1, 2);
        Check.sentenceFault(x, "works g" + " ".repeat(194), 1, 200);
        Check.sentenceFault(x, "works" + " ".repeat(194) + "gg", 3, 199);
        Check.sentenceFault(x, "works" + " ".repeat(195) + "gg", 1, 200);
        Check.sentenceFault(x, "hour<" + " ".repeat(194) + "12 or", 1, 200);
        Check.sentenceFault(x, "hour<" + " ".repeat(194) + "12345", 1, 199);
        Check.sentenceFault(x, "x" + " ".repeat(300), 1, 0);
    }

    private static void stays() {
        Bells x = made();
        Check.sentence(x, "works g");
        Check.sentenceFault(x, "works h and", 1, 11);
        Check.due("it stays", 2, x.said(-1));
        Check.order(x, "bell 0 0 g 5;");
        Check.due("fault of the latest", 0, x.fault());
        Check.due("another ORDER", 5, x.said(-1));
    }

    private static void withoutReach() {
        Bells x = made();
        x.ring(167, 1, 1);
        said(x, "passed>0 and hour=167", 2, 1);
        Check.river(x, "colour c;colour d;");
        said(x, "passed=0", 1, 168);
        said(x, "passed>0", 1, 0);
        Check.sentenceFault(x, "shade c a>0", 3, 8);
    }
}
