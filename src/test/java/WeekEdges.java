/** Terms, part 2: the week, its HOURS, what is where, who is HARMED. */
final class WeekEdges {
    private static final String NO_FLOW = "flow 0 0;flow 1 0;flow 2 0;flow 3 0;flow 4 0;flow 5 0;flow 6 0;";

    private WeekEdges() {
    }

    private static void at(Bells x, int hour, int r, int water, int bed) {
        Check.due("water of REACH " + r + " behind HOUR " + hour, water, x.at(hour, r, 0, 0));
        Check.due("bed of REACH " + r + " behind HOUR " + hour, bed, x.at(hour, r, 0, 1));
    }

    // ---- HOURS and BELLS

    @Says("A week has HOURS 0 to 167, from 0 of DAY 0 on.")
    static void termsWeekHasHours0To167(Bells x) {
        Check.river(x, "reach a 100 0;colour c;guild g a 1 c 7;");
        Check.due("ring(-1)", -1, x.ring(-1, 0, 1));
        Check.due("ring(168)", -1, x.ring(168, 0, 1));
        Check.due("ring(0)", 0, x.ring(0, 0, 1));
        Check.due("ring(167)", 1, x.ring(167, 0, 1));
        Check.due("passed(-1)", -1, x.passed(-1, 0));
        Check.due("passed(0)", 7, x.passed(0, 0));
        Check.due("passed(1)", 0, x.passed(1, 0));
        Check.due("passed(166)", 0, x.passed(166, 0));
        Check.due("passed(167)", 7, x.passed(167, 0));
        Check.due("passed(168)", -1, x.passed(168, 0));
        Check.sentenceTaken(x, "hour<9999", 1);
        Check.due("HOURS", 168, x.said(-1));
        Check.due("the first", 0, x.said(0));
        Check.due("the last", 167, x.said(167));
        Check.due("none more", -1, x.said(168));
    }

    @Says("from 0 of DAY 0 on")
    static void termsWeekDaysBeginEach24Hours(Bells x) {
        Check.river(x, "reach a 100 0;colour c;guild g a 1 c 7;flow 0 0;flow 6 0;");
        x.ring(0, 0, 1);
        x.ring(143, 0, 2);
        Check.due("the last HOUR of DAY 0", 0, x.passed(23, 0));
        Check.due("the first HOUR of DAY 1", 7, x.passed(24, 0));
        Check.due("the last HOUR of DAY 5", 7, x.passed(143, 0));
        Check.due("the first HOUR of DAY 6", 0, x.passed(144, 0));
        Check.due("the last HOUR of DAY 6", 7, x.at(167, 0, 0, 0));
        for (int day = 0; day < 7; day++) {
            Check.sentence(x, "day=" + day);
            Check.due("HOURS of DAY " + day, 24, x.said(-1));
            Check.due("the first of DAY " + day, 24 * day, x.said(0));
            Check.due("the last of DAY " + day, 24 * day + 23, x.said(23));
        }
    }

    @Says("An ORDER: BELLS (40):")
    static void termsOrderOfFortyBells(Bells x) {
        Check.river(x, "reach a 100 0;colour c;guild g a 1 c 7;");
        for (int k = 0; k < 40; k++) {
            Check.due("ring", k, x.ring(k, 0, 1));
        }
        Check.due("a 41st", -1, x.ring(100, 0, 1));
        Check.due("BELLS", 40, x.count(5));
        Check.due("put in", 280, x.sum(0, 0));
        Check.due("undo", 39, x.undo());
        Check.due("a 40th again", 39, x.ring(100, 0, 1));
        Check.due("put in", 280, x.sum(0, 0));
        Check.due("a 41st again", -1, x.ring(101, 0, 1));
    }

    @Says("a GUILD works from an HOUR on for some HOURS (1 to 24; no more than to HOUR 168).")
    static void termsOrderGuildWorksSomeHours(Bells x) {
        Check.river(x, "reach a 100 0;colour c;guild g a 1 c 7;guild h a 1 c 7;");
        Check.due("0 HOURS", -1, x.ring(5, 0, 0));
        Check.due("25 HOURS", -1, x.ring(5, 0, 25));
        Check.due("to HOUR 169", -1, x.ring(145, 0, 24));
        Check.due("to HOUR 169", -1, x.ring(167, 0, 2));
        Check.due("one HOUR", 0, x.ring(5, 0, 1));
        Check.due("24 HOURS", 1, x.ring(144, 1, 24));
        Check.sentence(x, "works g");
        Check.due("one HOUR", 1, x.said(-1));
        Check.due("it", 5, x.said(0));
        Check.sentence(x, "works h");
        Check.due("24 HOURS", 24, x.said(-1));
        Check.due("the first", 144, x.said(0));
        Check.due("the last", 167, x.said(23));
        Check.due("to HOUR 168", 2, x.ring(167, 0, 1));
    }

    // ---- an HOUR

    @Says("Each HOUR: (1) each GUILD that works (once, however many of its BELLS tell so) puts its N of each COLOUR into its REACH.")
    static void termsHour1GuildsPutInOnce(Bells x) {
        Check.river(x, "reach a 100 0;reach b 100 0;colour c;colour d;guild g a 1 c 7 d 9;guild h b 1 d 5;" + NO_FLOW);
        x.ring(3, 0, 2);
        x.ring(4, 0, 2);
        x.ring(4, 0, 1);
        x.ring(4, 1, 1);
        int[] ofC = {0, 7, 14, 21, 21};
        for (int i = 0; i < 5; i++) {
            Check.due("c in a behind HOUR " + (2 + i), ofC[i], x.at(2 + i, 0, 0, 0));
            Check.due("d in a behind HOUR " + (2 + i), ofC[i] / 7 * 9, x.at(2 + i, 0, 1, 0));
            Check.due("c in b behind HOUR " + (2 + i), 0, x.at(2 + i, 1, 0, 0));
            Check.due("d in b behind HOUR " + (2 + i), i < 2 ? 0 : 5, x.at(2 + i, 1, 1, 0));
        }
        Check.due("put in", 21, x.sum(0, 0));
        Check.due("put in", 32, x.sum(1, 0));
    }

    @Says("once, however many of its BELLS tell so")
    static void termsHour1FortyBellsOfOneHour(Bells x) {
        Check.river(x, "reach a 100 0;colour c;guild g a 1 c 7;");
        for (int k = 0; k < 40; k++) {
            x.ring(167, 0, 1);
        }
        Check.due("PASSED", 7, x.passed(167, 0));
        Check.due("put in", 7, x.sum(0, 0));
    }

    /** 7 in still water: 3, then 2, then 1 sink; 1 is left in the water above 6. */
    private static void stillWater(Bells x, String more) {
        Check.river(x, "reach a 100 500;reach b 100 500;colour c;guild g a 1 c 7;guild h b 1 c 7;flow 0 0;" + more);
        x.ring(0, 0, 1);
        x.ring(0, 1, 1);
        for (int r = 0; r < 2; r++) {
            at(x, 0, r, 4, 3);
            at(x, 1, r, 2, 5);
            at(x, 2, r, 1, 6);
            at(x, 23, r, 1, 6);
        }
    }

    @Says("(2) If the DAY's flow is 'flood' or more, half of what is on the bed of each REACH (cut) is in its water again.")
    static void termsHour2FloodOrMore(Bells x) {
        stillWater(x, "flow 1 10;flood 11;");
        at(x, 24, 0, 1, 6);
        stillWater(x, "flow 1 10;flood 10;");
        for (int r = 0; r < 2; r++) {
            at(x, 24, r, 2, 5);
            at(x, 25, r, 2, 5);
        }
        stillWater(x, "flow 1 10;flood 9;");
        at(x, 24, 1, 2, 5);
        stillWater(x, "flow 1 0;flow 2 10;flood 10;");
        at(x, 47, 0, 1, 6);
        at(x, 48, 0, 2, 5);
    }

    /** What is washed up goes on in the same HOUR; of one on the bed nothing is. */
    @Says("half of what is on the bed of each REACH (cut) is in its water again")
    static void termsHour2HalfIsCutAndGoesOnAtOnce(Bells x) {
        Check.river(x, "reach a 100 500;colour c;guild g a 1 c 7;flow 0 0;flood 100;");
        x.ring(0, 0, 1);
        at(x, 23, 0, 1, 6);
        int[] passed = {0, 4, 1, 1, 0};
        int[] bed = {6, 3, 2, 1, 1};
        for (int i = 0; i < 5; i++) {
            Check.due("passed(" + (23 + i) + ")", passed[i], x.passed(23 + i, 0));
            Check.due("bed behind HOUR " + (23 + i), bed[i], x.at(23 + i, 0, 0, 1));
        }
        at(x, 167, 0, 0, 1);
    }

    @Says("(3) From the last REACH to the first, of each COLOUR what is in it times flow (VOL at most) by VOL, cut, goes into the next one;")
    static void termsHour3FlowByVol(Bells x) {
        int[] flows = {0, 14, 15, 99, 100, 101, 9999};
        int[] gone = {0, 0, 1, 6, 7, 7, 7};
        for (int i = 0; i < flows.length; i++) {
            Check.river(x, "reach a 100 0;reach b 50 0;colour c;guild g a 1 c 7;flow 0 " + flows[i] + ";");
            x.ring(0, 0, 1);
            Check.due("left by flow " + flows[i], 7 - gone[i], x.at(0, 0, 0, 0));
            Check.due("in the next one by flow " + flows[i], gone[i], x.at(0, 1, 0, 0));
            Check.due("PASSED by flow " + flows[i], 0, x.passed(0, 0));
        }
        Check.river(x, "reach a 1 0;reach b 9999 0;colour c;guild g a 1 c 9999;flow 0 1;");
        x.ring(0, 0, 1);
        Check.due("all of VOL 1", 9999, x.at(0, 1, 0, 0));
        Check.due("one of VOL 9999", 9998, x.at(1, 1, 0, 0));
    }

    @Says("From the last REACH to the first")
    static void termsHour3OneReachAnHour(Bells x) {
        Check.river(x, "reach a 1 0;reach b 1 0;reach d 1 0;colour c;guild g a 1 c 7;");
        x.ring(0, 0, 1);
        for (int hour = 0; hour < 4; hour++) {
            for (int r = 0; r < 3; r++) {
                Check.due("REACH " + r + " behind HOUR " + hour, r == hour + 1 ? 7 : 0, x.at(hour, r, 0, 0));
            }
            Check.due("passed(" + hour + ")", hour == 2 ? 7 : 0, x.passed(hour, 0));
        }
    }

    @Says("from the last one it is gone under the bridge: PASSED in that HOUR.")
    static void termsHour3PassedUnderTheBridge(Bells x) {
        Check.river(x, "reach a 100 0;colour c;colour d;guild g a 1 c 8 d 5;flow 0 50;");
        x.ring(0, 0, 1);
        int[] ofC = {4, 2, 1, 0, 0};
        int[] ofD = {2, 1, 1, 0, 0};
        for (int hour = 0; hour < 5; hour++) {
            Check.due("passed(" + hour + ", 0)", ofC[hour], x.passed(hour, 0));
            Check.due("passed(" + hour + ", 1)", ofD[hour], x.passed(hour, 1));
        }
        Check.due("the rest, by another flow", 1, x.passed(24, 0));
        Check.due("the rest, by another flow", 1, x.passed(24, 1));
        Check.due("nothing is left", 0, x.sum(0, 2) + x.sum(1, 2));
    }

    @Says("(4) Of what is in each REACH then SETTLE thousandths (cut) go to the bed.")
    static void termsHour4SettleIsCut(Bells x) {
        int[] settles = {0, 500, 500, 500, 1, 1, 333};
        int[] put = {9999, 1, 2, 7, 999, 1000, 10};
        int[] down = {0, 0, 1, 3, 0, 1, 3};
        for (int i = 0; i < settles.length; i++) {
            Check.river(x, "reach a 100 " + settles[i] + ";colour c;guild g a 1 c " + put[i] + ";flow 0 0;");
            x.ring(0, 0, 1);
            at(x, 0, 0, put[i] - down[i], down[i]);
        }
    }

    @Says("Of what is in each REACH then")
    static void termsHour4SettlesWhereItHasCome(Bells x) {
        Check.river(x, "reach a 100 500;reach b 100 250;colour c;guild g a 1 c 16;flow 0 50;");
        x.ring(0, 0, 1);
        at(x, 0, 0, 4, 4);
        at(x, 0, 1, 6, 2);
    }

    @Says("At first there is nothing anywhere.")
    static void termsWeekAtFirstNothingAnywhere(Bells x) {
        Check.river(x, "reach a 100 500;reach b 100 500;colour c;guild g a 1 c 100;flood 1;" + NO_FLOW);
        x.ring(167, 0, 1);
        at(x, 167, 0, 50, 50);
        x.undo();
        x.ring(166, 0, 1);
        for (int r = 0; r < 2; r++) {
            at(x, 0, r, 0, 0);
            at(x, 165, r, 0, 0);
        }
        at(x, 167, 0, 25, 75);
        x.undo();
        at(x, 167, 0, 0, 0);
        Check.due("a new RIVER's", 2, Check.river(x, "reach a 100 500;colour c;"));
        at(x, 0, 0, 0, 0);
    }

    // ---- SHADE, HARMED, FINE, BLAME, DUTY

    @Says("SHADE of a COLOUR in a REACH behind an HOUR: what is in it times 100 by VOL, cut.")
    static void termsShadeIsCut(Bells x) {
        int[] vols = {3, 3, 100, 9999, 9999, 1, 9999};
        int[] put = {1, 2, 7, 99, 100, 9999, 9999};
        int[] shade = {33, 66, 7, 0, 1, 999900, 100};
        for (int i = 0; i < vols.length; i++) {
            Check.river(x, "reach a " + vols[i] + " 0;colour c;guild g a 1 c " + put[i] + ";flow 0 0;");
            x.ring(0, 0, 1);
            Check.due("SHADE of " + put[i] + " in " + vols[i], shade[i], x.at(0, 0, 0, 2));
        }
        Check.river(x, "reach a 100 500;colour c;guild g a 1 c 80;flow 0 50;");
        x.ring(0, 0, 1);
        Check.due("behind the HOUR: half is gone, half of that lies on the bed", 20, x.at(0, 0, 0, 2));
    }

    /** All that can be put in, in one REACH of the least VOL. */
    @Says("what is in it times 100 by VOL")
    static void termsShadeOfTheMostThatCanBe(Bells x) {
        StringBuilder t = new StringBuilder("reach a 1 0;colour c;user u a 23 24 c 9999;pebble c 9999 999;" + NO_FLOW);
        for (char g = 'f'; g < 'f' + 6; g++) {
            t.append("guild ").append(g).append(" a 24 c 9999;");
        }
        Check.river(x, t.toString());
        for (int k = 0; k < 40; k++) {
            x.ring(24 * (k / 6), k % 6, 24);
        }
        int all = 24 * 40 * 9999;
        Check.due("in the water", all, x.at(167, 0, 0, 0));
        Check.due("SHADE", all * 100, x.at(167, 0, 0, 2));
        Check.due("FINE", 999, x.fine(167, 0));
        Check.due("harmed", 7, x.harmed(0, -1));
        Check.sentence(x, "shade c a>9999");
        Check.due("said", 168, x.said(-1));
    }

    @Says("A USER is HARMED in an HOUR of his of a day, if some COLOUR's SHADE there is above what is borne.")
    static void termsHarmedAboveWhatIsBorne(Bells x) {
        int[] borne = {0, 6, 7, 8, 9999};
        int[] hours = {24, 24, 0, 0, 0};
        for (int i = 0; i < borne.length; i++) {
            Check.river(x, "reach a 100 0;colour c;guild g a 1 c 7;user u a 0 24 c " + borne[i] + ";flow 0 0;");
            Check.due("nothing is there", 0, x.harm());
            x.ring(0, 0, 1);
            Check.due("SHADE 7, borne " + borne[i], hours[i], x.harm());
        }
        Check.river(x, "reach a 100 0;colour c;colour d;guild g a 1 c 7 d 7;user u a 0 24 c 7 d 6;user v a 0 24 c 6 d 7;"
            + "user w a 0 24 c 7 d 7;user y a 0 24 c 6 d 6;flow 0 0;");
        x.ring(0, 0, 1);
        int[] harmed = {24, 24, 0, 24};
        for (int u = 0; u < 4; u++) {
            Check.due("some COLOUR's, USER " + u, harmed[u], x.harmed(u, -1));
        }
    }

    @Says("in an HOUR of his of a day")
    static void termsHarmedFromAndTill(Bells x) {
        Check.river(x, "reach a 100 0;colour c;guild g a 1 c 7;user u a 5 6 c 0;user v a 0 1 c 0;user w a 23 24 c 0;"
            + "user y a 0 24 c 0;" + NO_FLOW);
        x.ring(0, 0, 1);
        int[] first = {5, 0, 23, 0};
        for (int u = 0; u < 3; u++) {
            Check.due("HOURS of USER " + u, 7, x.harmed(u, -1));
            for (int day = 0; day < 7; day++) {
                Check.due("HOUR of USER " + u, 24 * day + first[u], x.harmed(u, day));
            }
        }
        Check.due("all HOURS", 168, x.harmed(3, -1));
        x.undo();
        x.ring(6, 0, 1);
        Check.due("from HOUR 6 on: not on DAY 0", 29, x.harmed(0, 0));
    }

    @Says("SHADE there is above")
    static void termsHarmedInTheUsersReach(Bells x) {
        Check.river(x, "reach a 100 0;reach b 100 0;colour c;guild g b 1 c 7;user u a 0 24 c 0;user v b 0 24 c 0;flow 0 0;");
        x.ring(0, 0, 1);
        Check.due("above it", 0, x.harmed(0, -1));
        Check.due("in it", 24, x.harmed(1, -1));
    }

    @Says("FINE of a REACH in an HOUR: of each COLOUR the FINE of the pebble with the greatest N that is its SHADE at most (0 without), added.")
    static void termsFineOfTheGreatestPebble(Bells x) {
        int[] put = {4, 5, 49, 50, 51, 59, 60, 99};
        int[] fine = {0, 3, 3, 9, 9, 9, 0, 0};
        for (int i = 0; i < put.length; i++) {
            Check.river(x, "reach a 100 0;colour c;guild g a 1 c " + put[i]
                + ";pebble c 50 9;pebble c 5 3;pebble c 60 0;flow 0 0;");
            x.ring(0, 0, 1);
            Check.due("FINE of SHADE " + put[i], fine[i], x.fine(0, 0));
        }
    }

    @Says({"of each COLOUR the FINE", "(0 without), added."})
    static void termsFineOfEachColourAdded(Bells x) {
        Check.river(x, "reach a 100 0;reach b 100 0;colour c;colour d;colour e;colour f;guild g a 1 c 5 d 5 e 5 f 5;"
            + "pebble c 5 999;pebble d 5 999;pebble f 1 7;pebble f 5 999;flow 0 0;");
        Check.due("nothing is there", 0, x.fine(0, 0));
        x.ring(0, 0, 1);
        Check.due("of three, of one none", 2997, x.fine(0, 0));
        Check.due("of another REACH", 0, x.fine(0, 1));
        Check.due("when it comes there", 0, x.fine(23, 1));
        Check.due("when it comes there", 2997, x.fine(24, 1));
        Check.due("when it has gone", 0, x.fine(24, 0));
        Check.river(x, "reach a 1 0;colour c;guild g a 1 c 99;guild h a 1 c 1;pebble c 9999 999;flow 0 0;");
        x.ring(0, 0, 1);
        x.ring(1, 1, 1);
        Check.due("SHADE 9900", 0, x.fine(0, 0));
        Check.due("SHADE 10000", 999, x.fine(1, 0));
    }

    @Says("BLAME of a GUILD for a USER: the HOURS in which the USER is HARMED, but would not be without any BELL of that GUILD.")
    static void termsBlame(Bells x) {
        Check.river(x, "reach a 100 0;colour c;guild g a 1 c 5;guild h a 1 c 5;user u a 0 24 c 4;user v a 0 24 c 9;user w a 0 24 c 10;");
        x.ring(0, 0, 1);
        Check.due("nobody is harmed: all goes on at once", 0, x.blame(0, 0));
        Check.river(x, "reach a 100 0;colour c;guild g a 1 c 5;guild h a 1 c 5;user u a 0 24 c 4;user v a 0 24 c 9;user w a 0 24 c 10;"
            + "flow 0 0;");
        x.ring(20, 0, 1);
        Check.due("by g alone", 4, x.blame(0, 0));
        Check.due("by h, who has no BELL", 0, x.blame(1, 0));
        x.ring(22, 1, 1);
        Check.due("HOURS of g alone", 2, x.blame(0, 0));
        Check.due("h comes later", 0, x.blame(1, 0));
        Check.due("both are needed", 2, x.blame(0, 1));
        Check.due("both are needed", 2, x.blame(1, 1));
        Check.due("who is not harmed", 0, x.blame(0, 2));
        x.ring(21, 0, 1);
        Check.due("all BELLS of g", 2, x.blame(0, 0));
        Check.due("all BELLS of g", 3, x.blame(0, 1));
        Check.due("harmed by g's two BELLS too", 0, x.blame(1, 1));
        Check.due("with h's they are above 10", 2, x.blame(1, 2));
    }

    @Says("DUTY of a GUILD: HOURS that it works less than HOURS told, 0 at least.")
    static void termsDutyIs0AtLeast(Bells x) {
        Check.river(x, "reach a 100 0;colour c;guild g a 24 c 5;guild h a 1 c 5;");
        Check.due("no BELL", 24, x.duty(0));
        Check.due("no BELL", 1, x.duty(1));
        x.ring(0, 0, 23);
        Check.due("23 HOURS", 1, x.duty(0));
        x.ring(22, 0, 1);
        Check.due("an HOUR told twice", 1, x.duty(0));
        x.ring(22, 0, 2);
        Check.due("24 HOURS", 0, x.duty(0));
        x.ring(100, 0, 24);
        Check.due("48 HOURS", 0, x.duty(0));
        Check.due("the other's", 1, x.duty(1));
        x.ring(167, 1, 1);
        Check.due("the last HOUR", 0, x.duty(1));
    }
}
