/** Terms, part 3: the SENTENCE. */
final class SentenceEdges {
    private SentenceEdges() {
    }

    /** g works in HOURS 0 and 1; of c 50, 75, 38, 19 .. are in a behind them, as half goes on each HOUR. */
    private static Bells made(Bells x) {
        Check.river(x, "reach a 100 0;reach b 50 0;colour c;colour d;guild g a 2 c 100;guild h b 1 d 7;user u a 0 24 c 40;user v b 0 24 c 9999;"
            + "flow 0 50;flow 1 50;flow 2 50;flow 3 50;flow 4 50;flow 5 50;flow 6 50;");
        x.ring(0, 0, 2);
        x.ring(30, 1, 1);
        return x;
    }

    private static void said(Bells x, String text, int ones, int hours) {
        Check.sentenceTaken(x, text, ones);
        Check.due("said of '" + text + "'", hours, x.said(-1));
    }

    @Says("A SENTENCE is a text of at most 200 bytes:")
    static void termsSentenceOf200Bytes(Bells x) {
        made(x);
        said(x, Check.padded("works g", 200, ""), 1, 2);
        said(x, Check.padded("works g or", 193, "works h"), 2, 3);
        Check.sentenceFault(x, Check.padded("works g or", 194, "works h"), 1, 200);
        Check.sentenceFault(x, Check.padded("works g", 201, ""), 1, 200);
        Check.sentenceFault(x, Check.padded("works g", 940, ""), 1, 200);
        Check.sentenceFault(x, Check.padded("", 201, ""), 1, 200);
        Check.sentenceFault(x, Check.padded("", 200, ""), 1, 200);
        Check.sentenceFault(x, Check.padded("works g#", 940, ""), 1, 7);
        Check.due("it stays", 3, x.said(-1));
    }

    @Says("COND: ALL { 'or' ALL }.")
    static void termsSentenceOr(Bells x) {
        made(x);
        said(x, "hour=3", 1, 1);
        said(x, "hour=3 or hour=5", 2, 2);
        said(x, "hour=3 or hour=5 or hour=7 or hour=3", 4, 3);
        said(x, "hour=3 or hour<9 and hour>7", 3, 2);
        Check.sentenceFault(x, "", 1, 0);
        Check.sentenceFault(x, "or hour=3", 1, 0);
        Check.sentenceFault(x, "hour=3 or", 1, 9);
        Check.sentenceFault(x, "hour=3 or or hour=5", 1, 10);
        Check.sentenceFault(x, "hour=3 hour=5", 1, 7);
        Check.sentenceFault(x, "hour=3;", 1, 6);
    }

    @Says("ALL: ONE { 'and' ONE }.")
    static void termsSentenceAnd(Bells x) {
        made(x);
        said(x, "hour>3 and hour<6", 2, 2);
        said(x, "hour>3 and hour<6 and hour=5", 3, 1);
        said(x, "hour>3 and hour<6 or hour=1 and hour=2 or hour=9", 5, 3);
        said(x, "hour<3 and hour>5", 2, 0);
        Check.sentenceFault(x, "and hour=3", 1, 0);
        Check.sentenceFault(x, "hour=3 and", 1, 10);
        Check.sentenceFault(x, "hour=3 and or hour=5", 1, 11);
        Check.sentenceFault(x, "hour=3 and and hour=5", 1, 11);
    }

    @Says("ONE: 'not' ONE | ( COND ) |")
    static void termsSentenceNotAndBrackets(Bells x) {
        made(x);
        said(x, "not hour=3", 2, 167);
        said(x, "not not hour=3", 3, 1);
        said(x, "not hour=3 and hour<5", 3, 4);
        said(x, "not(hour=3 and hour<5)", 4, 167);
        said(x, "(hour=3)", 2, 1);
        said(x, "(hour=3 or hour=5) and hour<4", 4, 1);
        said(x, "not(not(hour=3))", 5, 1);
        Check.sentenceFault(x, "not", 1, 3);
        Check.sentenceFault(x, "hour=3 not", 1, 7);
        Check.sentenceFault(x, "()", 1, 1);
        Check.sentenceFault(x, "(hour=3", 1, 7);
        Check.sentenceFault(x, "hour=3)", 1, 6);
        Check.sentenceFault(x, "(hour=3))", 1, 8);
        Check.sentenceFault(x, "(hour=3 or)", 1, 10);
        Check.sentenceFault(x, ")", 1, 0);
    }

    @Says("ONE: 'not' ONE | ( COND )")
    static void termsSentenceBracketsBehindOthers(Bells x) {
        made(x);
        said(x, "hour=5 and (hour<6 and hour>4)", 4, 1);
        said(x, "hour<9 and (hour=5 or hour=6)", 4, 2);
        said(x, "hour=1 or (hour=2 or (hour=3 or hour=4))", 6, 4);
        said(x, "hour=1 or (hour<9 and (hour=3 or hour=4))", 6, 3);
        said(x, "(hour=1 or hour=2) and (hour=2 or hour=3)", 6, 1);
        said(x, "(hour=1 and hour=2) or (hour>2 and hour<5)", 6, 2);
        said(x, "hour<9 and not(hour=5 or hour=6)", 5, 7);
        said(x, "hour<9 and not(hour=5 and not hour=6)", 6, 8);
        said(x, "hour<9 and (hour<8 and (hour<7 and (hour<6 and (hour<5 and hour>1))))", 10, 3);
        said(x, "hour=9 or (hour=8 or (hour=7 or (hour=6 or (hour=5 or hour>160))))", 10, 12);
    }

    @Says("'works' GUILD | 'harmed' USER | 'shade' COLOUR REACH SIGN NUMBER |")
    static void termsSentenceOfGuildsUsersAndShades(Bells x) {
        made(x);
        said(x, "works g", 1, 2);
        said(x, "works h", 1, 1);
        said(x, "harmed u", 1, 2);
        said(x, "harmed v", 1, 0);
        said(x, "shade c a>49", 1, 2);
        said(x, "shade c a>50", 1, 1);
        said(x, "shade c a=50", 1, 1);
        said(x, "shade c a<51 and hour<2", 2, 1);
        said(x, "shade d a=0", 1, 168);
        said(x, "shade c b>99", 1, 2);
        Check.sentenceFault(x, "works", 1, 5);
        Check.sentenceFault(x, "harmed 5", 1, 7);
        Check.sentenceFault(x, "shade c a", 1, 9);
        Check.sentenceFault(x, "shade c a>", 1, 10);
        Check.sentenceFault(x, "shade c>5", 1, 7);
        Check.sentenceFault(x, "shade c a 5", 1, 10);
    }

    @Says("( 'hour' | 'day' | 'passed' ) SIGN NUMBER (of the week; of it; PASSED of all COLOURS).")
    static void termsSentenceOfHourDayAndPassed(Bells x) {
        Check.river(x, "reach a 100 0;colour c;colour d;guild g a 2 c 9999 d 1;guild h a 1 c 4 d 5;");
        x.ring(7, 0, 1);
        x.ring(8, 1, 1);
        said(x, "hour=0", 1, 1);
        said(x, "hour=167", 1, 1);
        said(x, "hour=168", 1, 0);
        said(x, "hour<167", 1, 167);
        said(x, "hour>0", 1, 167);
        said(x, "day=0", 1, 24);
        said(x, "day=6", 1, 24);
        said(x, "day=7", 1, 0);
        said(x, "day>0", 1, 144);
        said(x, "passed>9999", 1, 1);
        Check.due("PASSED of both", 7, x.said(0));
        said(x, "passed=9", 1, 1);
        Check.due("PASSED of both", 8, x.said(0));
        said(x, "passed=9999", 1, 0);
        said(x, "passed<1", 1, 166);
        said(x, "passed=0", 1, 166);
        Check.sentenceFault(x, "hour", 1, 4);
        Check.sentenceFault(x, "hour 5", 1, 5);
        Check.sentenceFault(x, "hour<", 1, 5);
        Check.sentenceFault(x, "day<c", 1, 4);
        Check.sentenceFault(x, "passed c>5", 1, 7);
    }

    @Says("SIGN: < = >.")
    static void termsSentenceSigns(Bells x) {
        made(x);
        said(x, "hour<5", 1, 5);
        said(x, "hour=5", 1, 1);
        said(x, "hour>5", 1, 162);
        said(x, "hour<0", 1, 0);
        said(x, "hour>0", 1, 167);
        said(x, "hour>9999", 1, 0);
        said(x, "hour<0009", 1, 9);
        Check.sentenceFault(x, "hour<=5", 1, 5);
        Check.sentenceFault(x, "hour==5", 1, 5);
        Check.sentenceFault(x, "hour;5", 1, 4);
        Check.sentenceFault(x, "hour(5", 1, 4);
        Check.sentenceFault(x, "hour!5", 1, 4);
        Check.sentenceFault(x, "hour<10000", 1, 5);
    }

    @Says({"20 ONES,", "4 a 21st ONE,"})
    static void termsSentenceOf20Ones(Bells x) {
        made(x);
        String twenty = "day=1" + " or day=2".repeat(19);
        said(x, twenty, 20, 48);
        Check.sentenceFault(x, twenty + " or day=3", 4, twenty.length() + 4);
        Check.sentenceFault(x, twenty + " or not day=3", 4, twenty.length() + 4);
        Check.sentenceFault(x, twenty + " or (day=3)", 4, twenty.length() + 4);
        String nineteen = "day=1" + " or day=2".repeat(18);
        said(x, nineteen + " and day=2", 20, 48);
        Check.sentenceFault(x, nineteen + " or not day=2", 4, nineteen.length() + 8);
        Check.sentenceFault(x, nineteen + " or (day=2)", 4, nineteen.length() + 5);
        String twentyAnd = "day=1" + " and day=1".repeat(19);
        said(x, twentyAnd, 20, 24);
        Check.sentenceFault(x, twentyAnd + " and", 1, 199);
        said(x, "not(" + nineteen.substring(0, nineteen.length() - 9) + ")", 20, 120);
    }

    @Says({"8 within one another.", "a ninth within (at its first TOKEN)."})
    static void termsSentenceOf8WithinOneAnother(Bells x) {
        made(x);
        said(x, "not ".repeat(7) + "day=1", 8, 144);
        Check.sentenceFault(x, "not ".repeat(8) + "day=1", 4, 32);
        said(x, "(".repeat(7) + "day=1" + ")".repeat(7), 8, 24);
        Check.sentenceFault(x, "(".repeat(8) + "day=1" + ")".repeat(8), 4, 8);
        Check.sentenceFault(x, "(".repeat(9) + "day=1" + ")".repeat(9), 4, 8);
        said(x, "not(not(not(not day=1)))", 8, 24);
        Check.sentenceFault(x, "not(not(not(not(day=1))))", 4, 16);
        said(x, "(".repeat(7) + "day=1 and day=2" + ")".repeat(7) + " or " + "(".repeat(7) + "day=1" + ")".repeat(7), 17, 24);
        Check.sentenceFault(x, "(".repeat(7) + "day=1 and (day=2)" + ")".repeat(7), 4, 18);
    }

    @Says("FAULTS: 1, 3 (no such NAME),")
    static void termsSentenceFaults1And3(Bells x) {
        made(x);
        Check.sentenceFault(x, "works i", 3, 6);
        Check.sentenceFault(x, "works u", 3, 6);
        Check.sentenceFault(x, "works a", 3, 6);
        Check.sentenceFault(x, "works c", 3, 6);
        Check.sentenceFault(x, "works or", 1, 6);
        Check.sentenceFault(x, "harmed g", 3, 7);
        Check.sentenceFault(x, "harmed w", 3, 7);
        Check.sentenceFault(x, "shade a a>5", 3, 6);
        Check.sentenceFault(x, "shade e a>5", 3, 6);
        Check.sentenceFault(x, "shade c c>5", 3, 8);
        Check.sentenceFault(x, "shade c u>5", 3, 8);
        Check.sentenceFault(x, "shade c day>5", 1, 8);
        Check.sentenceFault(x, "x", 1, 0);
        Check.sentenceFault(x, "g", 1, 0);
        Check.sentenceFault(x, "flow>5", 1, 0);
        Check.sentenceFault(x, "works g works i", 1, 8);
        Check.sentenceFault(x, "works i)", 3, 6);
    }

    @Says("4 a 21st ONE, a ninth within (at its first TOKEN).")
    static void termsSentenceFault4AtItsFirstToken(Bells x) {
        made(x);
        String twenty = "day=1" + " or day=2".repeat(19);
        Check.sentenceFault(x, twenty + " or shade x y>5", 4, twenty.length() + 4);
        Check.sentenceFault(x, twenty + " or works", 4, twenty.length() + 4);
        Check.sentenceFault(x, twenty + " or x", 1, twenty.length() + 4);
        Check.sentenceFault(x, twenty + " or", 1, twenty.length() + 3);
        Check.sentenceFault(x, twenty + " x", 1, twenty.length() + 1);
        Check.sentenceFault(x, "(".repeat(8) + "works x", 4, 8);
        Check.sentenceFault(x, "(".repeat(8) + "x", 1, 8);
        Check.sentenceFault(x, "(".repeat(8) + ")", 1, 8);
        Check.sentenceFault(x, "(".repeat(8), 1, 8);
    }

    @Says("It is said of HOURS.")
    static void termsSentenceIsSaidOfHours(Bells x) {
        made(x);
        said(x, "works g or harmed u or hour=9", 3, 3);
        int[] due = {0, 1, 9};
        for (int k = 0; k < 3; k++) {
            Check.due("said(" + k + ")", due[k], x.said(k));
        }
        x.ring(20, 0, 2);
        Check.due("of another ORDER", 5, x.said(-1));
        Check.due("HOUR", 20, x.said(3));
        Check.due("HOUR", 21, x.said(4));
    }

    @Says("at most 200 bytes")
    static void termsSentenceTokensThatBeginAt199(Bells x) {
        made(x);
        Check.sentenceFault(x, Check.padded("works", 199, "gg"), 3, 199);
        Check.sentenceFault(x, Check.padded("works", 200, "gg"), 1, 200);
        Check.sentenceFault(x, Check.padded("hour<", 199, "9999"), 1, 200);
        Check.sentenceFault(x, Check.padded("hour<", 199, "99999"), 1, 199);
        said(x, Check.padded("hour<", 199, "9"), 1, 9);
        String nineteen = "day=1" + " or day=2".repeat(18);
        Check.sentenceFault(x, Check.padded(nineteen + " or day=1 or", 199, "not day=1"), 4, 199);
    }
}
