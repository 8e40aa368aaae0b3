/** Promises 14 to 22: what is where, what PASSED, who is HARMED, BLAME, DUTY, PULSE. */
final class MiddlePromiseEdges {
    private static final int[] FAR = {Integer.MIN_VALUE, -2, -1, 1000, Integer.MAX_VALUE};
    private static final String NO_FLOW = "flow 0 0;flow 1 0;flow 2 0;flow 3 0;flow 4 0;flow 5 0;flow 6 0;";

    private MiddlePromiseEdges() {
    }

    private static Bells small(Bells x) {
        return Look.small(x);
    }

    /** Half of what is in the one REACH goes on each HOUR, and half of the rest sinks. */
    private static Bells sinking(Bells x) {
        Check.river(x, "reach a 200 500;colour c;colour d;guild g a 3 c 80 d 16;flow 0 100;");
        x.ring(0, 0, 1);
        return x;
    }

    @Says("Behind an HOUR (0 to 167) of COLOUR c in REACH r: 0 how much is in the water, 1 on the bed, 2 SHADE.")
    static void promise14AtWaterBedAndShade(Bells x) {
        sinking(x);
        int[][] due = {{20, 20, 10}, {5, 25, 2}, {2, 26, 1}, {1, 26, 0}};
        for (int hour = 0; hour < 4; hour++) {
            for (int what = 0; what < 3; what++) {
                Check.due("at(" + hour + ", 0, 0, " + what + ")", due[hour][what], x.at(hour, 0, 0, what));
            }
        }
        int[] ofD = {4, 4, 2};
        for (int what = 0; what < 3; what++) {
            Check.due("at(0, 0, 1, " + what + ")", ofD[what], x.at(0, 0, 1, what));
        }
        Check.due("behind the last HOUR", 26, x.at(167, 0, 0, 1));
        x.undo();
        x.ring(167, 0, 1);
        Check.due("in the last HOUR", 20, x.at(167, 0, 0, 0));
        Check.due("ahead of it", 0, x.at(166, 0, 0, 0));
    }

    @Says("NONE: no such ones.")
    static void promise14AtNoSuchOnes(Bells x) {
        Check.due("at of an empty RIVER", -1, x.at(0, 0, 0, 0));
        small(x);
        Check.due("at(0, 0, 0, 0)", true, x.at(0, 0, 0, 0) >= 0);
        Check.due("at(167, 1, 1, 2)", true, x.at(167, 1, 1, 2) >= 0);
        Check.due("at(168, ..)", -1, x.at(168, 0, 0, 0));
        Check.due("at(0, 2, ..)", -1, x.at(0, 2, 0, 0));
        Check.due("at(0, 0, 2, ..)", -1, x.at(0, 0, 2, 0));
        Check.due("at(0, 0, 0, 3)", -1, x.at(0, 0, 0, 3));
        for (int no : FAR) {
            Check.due("at(" + no + ", ..)", -1, x.at(no, 0, 0, 0));
            Check.due("at(0, " + no + ", ..)", -1, x.at(0, no, 0, 0));
            Check.due("at(0, 0, " + no + ", ..)", -1, x.at(0, 0, no, 0));
            Check.due("at(0, 0, 0, " + no + ")", -1, x.at(0, 0, 0, no));
        }
        Check.river(x, "colour c;");
        Check.due("without a REACH", -1, x.at(0, 0, 0, 0));
        Check.river(x, "reach a 5 5;");
        Check.due("without a COLOUR", -1, x.at(0, 0, 0, 0));
    }

    @Says("PASSED in an HOUR of COLOUR c;")
    static void promise15PassedInAnHour(Bells x) {
        sinking(x);
        int[] ofC = {40, 10, 2, 1, 0};
        int[] ofD = {8, 2, 0, 0, 0};
        for (int hour = 0; hour < 5; hour++) {
            Check.due("passed(" + hour + ", 0)", ofC[hour], x.passed(hour, 0));
            Check.due("passed(" + hour + ", 1)", ofD[hour], x.passed(hour, 1));
        }
        x.ring(167, 0, 1);
        Check.due("passed(167, 0)", 40, x.passed(167, 0));
        Check.due("passed(167, 1)", 8, x.passed(167, 1));
    }

    @Says("NONE: no such ones.")
    static void promise15PassedNoSuchOnes(Bells x) {
        Check.due("passed of an empty RIVER", -1, x.passed(0, 0));
        small(x);
        Check.due("passed(0, 0)", 0, x.passed(0, 0));
        Check.due("passed(167, 1)", 0, x.passed(167, 1));
        Check.due("passed(168, 0)", -1, x.passed(168, 0));
        Check.due("passed(0, 2)", -1, x.passed(0, 2));
        for (int no : FAR) {
            Check.due("passed(" + no + ", 0)", -1, x.passed(no, 0));
            Check.due("passed(0, " + no + ")", -1, x.passed(0, no));
        }
        Check.river(x, "colour c;");
        Check.due("without a REACH nothing passes", 0, x.passed(0, 0));
        Check.due("without a REACH nothing passes", 0, x.passed(167, 0));
    }

    @Says("PASSED in an HOUR of COLOUR c;")
    static void promise15PassedBehindAnotherRiver(Bells x) {
        Check.river(x, "reach a 100 0;colour c;colour d;guild g a 1 c 10 d 20;");
        x.ring(167, 0, 1);
        Check.due("PASSED in the last HOUR", 20, x.passed(167, 1));
        x.image(0);
        Check.river(x, "colour c;colour d;");
        int[] hours = {0, 1, 166, 167};
        for (int hour : hours) {
            Check.due("without a REACH", 0, x.passed(hour, 0));
            Check.due("without a REACH", 0, x.passed(hour, 1));
        }
        x.restore(0);
        Check.due("PASSED in the last HOUR", 10, x.passed(167, 0));
        Check.due("PASSED in the first HOUR", 0, x.passed(0, 0));
    }

    @Says("Of COLOUR c behind HOUR 167: 0 put in in all, 1 PASSED, 2 in the water, 3 on beds.")
    static void promise16SumBehindHour167(Bells x) {
        Check.river(x, "reach a 100 500;reach b 100 0;colour c;colour d;guild g a 1 c 100 d 1;guild h b 1 c 7;flow 6 0;");
        x.ring(0, 1, 2);
        x.ring(167, 0, 1);
        x.ring(167, 1, 1);
        int[] ofC = {121, 14, 50 + 7, 50};
        int[] ofD = {1, 0, 1, 0};
        for (int what = 0; what < 4; what++) {
            Check.due("sum(0, " + what + ")", ofC[what], x.sum(0, what));
            Check.due("sum(1, " + what + ")", ofD[what], x.sum(1, what));
        }
    }

    @Says("NONE: no such ones.")
    static void promise16SumNoSuchOnes(Bells x) {
        Check.due("sum of an empty RIVER", -1, x.sum(0, 0));
        small(x);
        Check.due("sum(1, 3)", true, x.sum(1, 3) >= 0);
        Check.due("sum(2, 0)", -1, x.sum(2, 0));
        Check.due("sum(0, 4)", -1, x.sum(0, 4));
        for (int no : FAR) {
            Check.due("sum(" + no + ", 0)", -1, x.sum(no, 0));
            Check.due("sum(0, " + no + ")", -1, x.sum(0, no));
        }
        Check.river(x, "colour c;");
        for (int what = 0; what < 4; what++) {
            Check.due("without a REACH", 0, x.sum(0, what));
        }
    }

    @Says("FINE of REACH r in an HOUR;")
    static void promise17FineInAnHour(Bells x) {
        Check.river(x, "reach a 100 0;reach b 100 0;colour c;guild g a 1 c 9;pebble c 9 5;");
        x.ring(0, 0, 1);
        x.ring(167, 0, 1);
        Check.due("fine(0, 0): all has gone on", 0, x.fine(0, 0));
        Check.due("fine(0, 1)", 5, x.fine(0, 1));
        Check.due("fine(1, 1)", 0, x.fine(1, 1));
        Check.due("fine(166, 1)", 0, x.fine(166, 1));
        Check.due("fine(167, 1)", 5, x.fine(167, 1));
    }

    @Says("NONE: no such ones.")
    static void promise17FineNoSuchOnes(Bells x) {
        Check.due("fine of an empty RIVER", -1, x.fine(0, 0));
        small(x);
        Check.due("fine(168, 0)", -1, x.fine(168, 0));
        Check.due("fine(0, 2)", -1, x.fine(0, 2));
        for (int no : FAR) {
            Check.due("fine(" + no + ", 0)", -1, x.fine(no, 0));
            Check.due("fine(0, " + no + ")", -1, x.fine(0, no));
        }
        Check.river(x, "reach a 5 5;");
        Check.due("without a COLOUR", 0, x.fine(0, 0));
        Check.due("without a COLOUR", 0, x.fine(167, 0));
    }

    @Says("HOURS HARMED of USER u (k NONE), or the k-th such HOUR;")
    static void promise18HarmedHoursAndTheKth(Bells x) {
        Check.river(x, "reach a 100 0;colour c;guild g a 1 c 9;user u a 0 24 c 0;user v a 23 24 c 0;user w a 0 1 c 9;" + NO_FLOW);
        Check.due("none", 0, x.harmed(0, -1));
        Check.due("no first one", -1, x.harmed(0, 0));
        x.ring(0, 0, 1);
        Check.due("all", 168, x.harmed(0, -1));
        Check.due("the first", 0, x.harmed(0, 0));
        Check.due("the last", 167, x.harmed(0, 167));
        Check.due("none more", -1, x.harmed(0, 168));
        Check.due("seven", 7, x.harmed(1, -1));
        Check.due("the first", 23, x.harmed(1, 0));
        Check.due("the last", 167, x.harmed(1, 6));
        Check.due("none more", -1, x.harmed(1, 7));
        Check.due("none", 0, x.harmed(2, -1));
        Check.due("no first one", -1, x.harmed(2, 0));
    }

    @Says("NONE: no such ones.")
    static void promise18HarmedNoSuchOnes(Bells x) {
        Check.due("harmed of an empty RIVER", -1, x.harmed(0, -1));
        small(x);
        Check.due("harmed(1, -1)", true, x.harmed(1, -1) >= 0);
        Check.due("harmed(2, -1)", -1, x.harmed(2, -1));
        Check.due("harmed(0, -2)", -1, x.harmed(0, -2));
        Check.due("harmed(0, 168)", -1, x.harmed(0, 168));
        Check.due("harmed(0, ..)", -1, x.harmed(0, Integer.MAX_VALUE));
        Check.due("harmed(0, ..)", -1, x.harmed(0, Integer.MIN_VALUE));
        for (int no : FAR) {
            Check.due("harmed(" + no + ", -1)", -1, x.harmed(no, -1));
            Check.due("harmed(" + no + ", 0)", -1, x.harmed(no, 0));
        }
    }

    @Says("HOURS HARMED of all USERS.")
    static void promise19HarmOfAllUsers(Bells x) {
        Check.due("harm of an empty RIVER", 0, x.harm());
        StringBuilder t = new StringBuilder("reach a 100 0;colour c;guild g a 1 c 9;" + NO_FLOW);
        for (char u = 'u'; u < 'u' + 6; u++) {
            t.append("user ").append(u).append(" a 0 24 c 0;");
        }
        Check.river(x, t.toString());
        Check.due("no BELL", 0, x.harm());
        x.ring(167, 0, 1);
        Check.due("one HOUR of six", 6, x.harm());
        x.ring(0, 0, 1);
        Check.due("all HOURS of six", 6 * 168, x.harm());
        Check.river(x, "reach a 100 0;colour c;guild g a 1 c 9;");
        x.ring(0, 0, 1);
        Check.due("no USER", 0, x.harm());
    }

    @Says("BLAME of GUILD g for USER u;")
    static void promise20BlameOfEachForEach(Bells x) {
        Check.river(x, "reach a 100 0;colour c;guild g a 1 c 9;guild h a 1 c 1;user u a 0 24 c 8;user v a 0 1 c 0;flow 0 0;");
        x.ring(0, 0, 1);
        x.ring(0, 1, 1);
        Check.due("blame(0, 0)", 24, x.blame(0, 0));
        Check.due("blame(1, 0)", 0, x.blame(1, 0));
        Check.due("blame(0, 1)", 0, x.blame(0, 1));
        Check.due("blame(1, 1)", 0, x.blame(1, 1));
        Check.due("the ORDER is as it was", 25, x.harm());
        Check.due("the BELLS too", 2, x.count(5));
    }

    @Says("NONE: no such ones.")
    static void promise20BlameNoSuchOnes(Bells x) {
        Check.due("blame of an empty RIVER", -1, x.blame(0, 0));
        small(x);
        Check.due("blame(1, 1)", true, x.blame(1, 1) >= 0);
        Check.due("blame(2, 0)", -1, x.blame(2, 0));
        Check.due("blame(0, 2)", -1, x.blame(0, 2));
        for (int no : FAR) {
            Check.due("blame(" + no + ", 0)", -1, x.blame(no, 0));
            Check.due("blame(0, " + no + ")", -1, x.blame(0, no));
        }
    }

    @Says({"DUTY of GUILD g;", "NONE: no such one."})
    static void promise21DutyAndNoSuchOne(Bells x) {
        Check.due("duty of an empty RIVER", -1, x.duty(0));
        small(x);
        Check.due("duty(0): 5 less 2", 3, x.duty(0));
        Check.due("duty(1): 2 less 3", 0, x.duty(1));
        x.undo();
        Check.due("duty(1)", 2, x.duty(1));
        Check.due("duty(2)", -1, x.duty(2));
        for (int no : FAR) {
            Check.due("duty(" + no + ")", -1, x.duty(no));
        }
    }

    @Says({"PULSE of n (1 to 9999) of COLOUR c into REACH r: the first HOUR in which something PASSED (what 0; NONE: never),",
        "the first HOUR with the most (1; likewise), all that PASSED (2)."})
    static void promise22PulseFirstMostAndAll(Bells x) {
        Check.river(x, "reach a 100 0;colour c;flow 0 10;");
        // 10, 9, 8 .. on DAY 0, and the 12 that are left in the first HOUR of DAY 1.
        Check.due("the first HOUR", 0, x.pulse(0, 0, 100, 0));
        Check.due("the HOUR with the most", 24, x.pulse(0, 0, 100, 1));
        Check.due("all", 100, x.pulse(0, 0, 100, 2));
        Check.due("9 stay until DAY 1", 24, x.pulse(0, 0, 9, 0));
        Check.due("9 stay until DAY 1", 24, x.pulse(0, 0, 9, 1));
        Check.due("11: one in HOUR 0", 0, x.pulse(0, 0, 11, 0));
        Check.due("11: nine in HOUR 24", 24, x.pulse(0, 0, 11, 1));
        Check.due("11: all", 11, x.pulse(0, 0, 11, 2));
        Check.river(x, "reach a 100 0;colour c;" + NO_FLOW);
        Check.due("never", -1, x.pulse(0, 0, 9999, 0));
        Check.due("never", -1, x.pulse(0, 0, 9999, 1));
        Check.due("nothing", 0, x.pulse(0, 0, 9999, 2));
        Check.river(x, "reach a 100 0;colour c;" + NO_FLOW.replace("flow 0 0", "flow 0 50"));
        Check.due("one in HOUR 0, one in HOUR 1: the first with the most", 0, x.pulse(0, 0, 3, 1));
        Check.due("all but one", 2, x.pulse(0, 0, 3, 2));
    }

    @Says("PULSE of n (1 to 9999)")
    static void promise22PulseOf1To9999(Bells x) {
        small(x);
        Check.due("n 1", true, x.pulse(1, 1, 1, 2) >= 0);
        Check.due("n 9999", true, x.pulse(0, 1, 9999, 2) > 0);
        Check.due("n 0", -2, x.pulse(0, 0, 0, 2));
        Check.due("n 10000", -2, x.pulse(0, 0, 10000, 2));
        for (int no : new int[] {Integer.MIN_VALUE, -1, 20000, Integer.MAX_VALUE}) {
            Check.due("n " + no, -2, x.pulse(0, 0, no, 2));
        }
        Check.river(x, "reach a 1 0;colour c;");
        Check.due("all of 1", 1, x.pulse(0, 0, 1, 2));
        Check.due("all of 9999", 9999, x.pulse(0, 0, 9999, 2));
    }

    @Says("-2: no such ones.")
    static void promise22PulseNoSuchOnes(Bells x) {
        Check.due("pulse of an empty RIVER", -2, x.pulse(0, 0, 1, 0));
        small(x);
        String before = Look.at(x);
        Check.due("pulse(2, ..)", -2, x.pulse(2, 0, 5, 0));
        Check.due("pulse(0, 2, ..)", -2, x.pulse(0, 2, 5, 0));
        Check.due("pulse(0, 0, 5, 3)", -2, x.pulse(0, 0, 5, 3));
        for (int no : FAR) {
            Check.due("pulse(" + no + ", ..)", -2, x.pulse(no, 0, 5, 0));
            Check.due("pulse(0, " + no + ", ..)", -2, x.pulse(0, no, 5, 0));
            Check.due("pulse(0, 0, 5, " + no + ")", -2, x.pulse(0, 0, 5, no));
        }
        x.pulse(0, 0, 9999, 2);
        Check.same("all", before, Look.at(x));
    }
}
