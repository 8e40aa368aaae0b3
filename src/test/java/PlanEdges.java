/** Terms, part 3, but for the SENTENCE: the ORDER's text, PULSE, DAYS, EXCHANGED, LATE, SEEN, NIGHT, DAM, RAIN. */
final class PlanEdges {
    private static final String NO_FLOW = "flow 0 0;flow 1 0;flow 2 0;flow 3 0;flow 4 0;flow 5 0;flow 6 0;";
    private static final String FORTY = "bell 0 0 g 1;".repeat(40);

    private PlanEdges() {
    }

    private static Bells quick(Bells x) {
        Check.river(x, "reach a 100 0;colour c;guild g a 2 c 100;guild h a 2 c 30;user u a 0 24 c 5;");
        return x;
    }

    // ---- the ORDER's text

    @Says("An ORDER is also a text, of at most 600 bytes:")
    static void termsOrderOf600Bytes(Bells x) {
        quick(x);
        Check.orderTaken(x, Check.padded(FORTY, 600, ""), 40);
        Check.orderTaken(x, Check.padded("bell 0 0 g 1;", 587, "bell 0 0 g 1;"), 2);
        Check.orderFault(x, Check.padded("bell 0 0 g 1;", 588, "bell 0 0 g 1;"), 1, 600);
        Check.orderFault(x, Check.padded("bell 0 0 g 1;", 601, ""), 1, 600);
        Check.orderFault(quick(new Bells()), Check.padded("bell 0 0 g 1;", 940, ""), 1, 600);
        Check.orderFault(quick(new Bells()), Check.padded("", 601, ""), 1, 600);
        Check.due("they stay", 2, x.count(5));
    }

    @Says("{ 'bell' DAY HOUR GUILD HOURS ; } (0 to 6; 0 to 23; 1 to 24).")
    static void termsOrderBells(Bells x) {
        quick(x);
        Check.orderTaken(x, "", 0);
        Check.orderTaken(x, "bell 0 0 g 1;bell 6 0 h 24;bell 6 23 g 1;", 3);
        int[][] due = {{0, 0, 1}, {144, 1, 24}, {167, 0, 1}};
        for (int k = 0; k < 3; k++) {
            for (int what = 0; what < 3; what++) {
                Check.due("bell(" + k + ", " + what + ")", due[k][what], x.bell(k, what));
            }
        }
        Check.orderFault(x, "bell 7 0 g 1;", 2, 5);
        Check.orderFault(x, "bell 0 24 g 1;", 2, 7);
        Check.orderFault(x, "bell 0 0 g 0;", 2, 11);
        Check.orderFault(x, "bell 0 0 g 25;", 2, 11);
        Check.orderFault(x, "bell 0 0 g 1", 1, 12);
        Check.orderFault(x, ";", 1, 0);
        Check.orderFault(x, "bell 0 g 1;", 1, 7);
        Check.orderFault(x, "bell 0 0 1;", 1, 9);
        Check.orderFault(x, "bell 0 0 g;", 1, 10);
        Check.orderFault(x, "bell 0 0 g 1 1;", 1, 13);
        Check.orderFault(x, "bell g 0 0 1;", 1, 5);
    }

    @Says("FAULTS: 1; 2 (also HOURS beyond HOUR 168);")
    static void termsOrderFault2BeyondHour168(Bells x) {
        quick(x);
        for (int hour = 1; hour < 24; hour++) {
            int most = 24 - hour;
            Check.due("to HOUR 168", 1, Check.order(x, "bell 6 " + hour + " g " + most + ";"));
            Check.due("to HOUR 169", hour < 10 ? -12 : -13, Check.order(x, "bell 6 " + hour + " g " + (most + 1) + ";"));
            Check.due("fault", 2, x.fault());
        }
        Check.orderTaken(x, "bell 5 23 g 24;", 1);
        Check.orderTaken(x, "bell 6 0 g 24;", 1);
    }

    @Says("FAULTS: 1; 2")
    static void termsOrderFault1(Bells x) {
        quick(x);
        Check.orderFault(x, "bells", 1, 0);
        Check.orderFault(x, "ring 0 0 g 1;", 1, 0);
        Check.orderFault(x, "reach a 5 5;", 1, 0);
        Check.orderFault(x, "bell  ", 1, 6);
        Check.orderFault(x, "bell 0 0 bell 1;", 1, 9);
        Check.orderFault(x, "bell 0 0 g 1;#", 1, 13);
        Check.orderFault(x, "bell 10000 0 g 1;", 1, 5);
        Check.orderFault(x, Check.padded("bell 0 0 g", 599, "24;"), 1, 600);
        Check.orderFault(x, Check.padded("bell 0 0 g", 599, "25;"), 2, 599);
        Check.orderFault(quick(new Bells()), Check.padded("bell 0 0", 599, "gg"), 3, 599);
        Check.orderFault(quick(new Bells()), Check.padded("bell 0 0", 600, "gg"), 1, 600);
    }

    @Says("3 no such GUILD;")
    static void termsOrderFault3(Bells x) {
        quick(x);
        Check.orderFault(x, "bell 0 0 i 1;", 3, 9);
        Check.orderFault(x, "bell 0 0 a 1;", 3, 9);
        Check.orderFault(x, "bell 0 0 c 1;", 3, 9);
        Check.orderFault(x, "bell 0 0 u 1;", 3, 9);
        Check.orderFault(x, "bell 0 0 gg 1;", 3, 9);
        Check.orderFault(x, "bell 6 23 i 2;", 3, 10);
        Check.orderFault(new Bells(), "bell 0 0 g 1;", 3, 9);
    }

    @Says("4 a 41st BELL (at its WORD).")
    static void termsOrderFault4(Bells x) {
        quick(x);
        Check.orderTaken(x, FORTY, 40);
        Check.orderFault(x, FORTY + "bell 0 0 g 1;", 4, 520);
        Check.orderFault(x, FORTY + "\n bell", 4, 522);
        Check.orderFault(x, FORTY + "g", 1, 520);
        Check.orderFault(x, Check.padded(FORTY, 599, "bell 0 0 g 1;"), 4, 599);
        Check.orderFault(quick(new Bells()), Check.padded(FORTY, 600, "bell 0 0 g 1;"), 1, 600);
        x.undo();
        Check.orderTaken(x, "bell 0 0 g 1;", 1);
    }

    // ---- PULSE

    @Says("PULSE: of a COLOUR into a REACH in HOUR 0, nothing else: by HOUR of the week what has PASSED.")
    static void termsPulseInHour0AndNothingElse(Bells x) {
        Check.river(x, "reach a 100 0;reach b 100 0;colour c;colour d;guild g b 1 c 50 d 50;");
        x.ring(0, 0, 24);
        Check.due("from b in HOUR 0", 0, x.pulse(1, 0, 9, 0));
        Check.due("from b all", 9, x.pulse(1, 0, 9, 2));
        Check.due("from a in HOUR 1", 1, x.pulse(0, 1, 9, 0));
        Check.due("from a all", 9, x.pulse(0, 1, 9, 2));
        Check.due("the ORDER is as it was", 1200, x.sum(0, 1));
        Check.river(x, "reach a 100 0;colour c;" + NO_FLOW.replace("flow 6 0", "flow 6 1"));
        Check.due("99 stay: never", -1, x.pulse(0, 0, 99, 0));
        Check.due("of 100 one in the first HOUR of DAY 6", 144, x.pulse(0, 0, 100, 0));
        Check.due("and no more then", 1, x.pulse(0, 0, 100, 2));
    }

    @Says("in HOUR 0, nothing else")
    static void termsPulseBehindOtherQuestions(Bells x) {
        Check.river(x, "reach a 100 0;reach b 100 0;colour c;guild g b 1 c 50;user u b 0 24 c 0;flow 0 50;");
        x.ring(0, 0, 24);
        Check.due("harm", true, x.harm() > 0);
        Bells y = new Bells();
        Check.river(y, "reach a 100 0;reach b 100 0;colour c;flow 0 50;");
        for (int what = 0; what < 3; what++) {
            Check.due("as in a RIVER without GUILDS", y.pulse(0, 0, 77, what), x.pulse(0, 0, 77, what));
        }
        x.dam(0, 9999);
        x.rain(3, 3);
        Check.due("behind others", y.pulse(0, 0, 77, 2), x.pulse(0, 0, 77, 2));
    }

    /** 8 put in: half sinks in each HOUR of DAY 0; what a flood washes up passes. */
    @Says("by HOUR of the week what has PASSED")
    static void termsPulseSinksAndIsWashedUp(Bells x) {
        Check.river(x, "reach a 100 500;colour c;flow 0 0;flow 1 50;flow 2 0;flow 3 100;flow 4 0;flow 5 0;flow 6 0;flood 100;");
        // Behind DAY 0 one is in the water and 7 lie on the bed; DAY 1 moves nothing of one, DAY 3 washes up 3, 2, 1.
        Check.due("first", 72, x.pulse(0, 0, 8, 0));
        Check.due("most", 72, x.pulse(0, 0, 8, 1));
        Check.due("all", 1 + 3 + 2 + 1, x.pulse(0, 0, 8, 2));
    }

    // ---- DAYS

    private static Bells cleared(Bells x) {
        Check.river(x, "reach a 100 0;colour c;guild g a 2 c 100;guild h a 1 c 100;guild i a 24 c 1;guild j a 1 c 1;guild k a 1 c 1;"
            + "user u a 0 24 c 0;user v a 0 24 c 9999;flow 0 50;flow 1 50;flow 2 50;flow 3 50;flow 4 50;flow 5 50;");
        return x;
    }

    @Says("DAYS: for told GUILDS (1 to 4, unlike) each a DAY on which it begins at an HOUR of the day (the same for all)")
    static void termsDaysOfOneToFourUnlikeGuilds(Bells x) {
        cleared(x);
        Check.due("none", -2, Check.days(x, 0));
        Check.due("one", 0, Check.days(x, 0, 0));
        Check.due("four", 0, Check.days(x, 0, 4, 3, 2, 1));
        for (int i = 0; i < 4; i++) {
            Check.due("dayOf(" + i + ")", 6, x.dayOf(i));
        }
        Check.due("five", -2, Check.days(x, 0, 0, 1, 2, 3, 4));
        Check.due("one twice", -2, Check.days(x, 0, 3, 3));
        Check.due("one twice", -2, Check.days(x, 0, 3, 0, 1, 3));
        Check.due("no such one", -2, Check.days(x, 0, 5));
        Check.due("no such one", -2, Check.days(x, 0, 0, 255));
        Check.due("no such one", -2, Check.days(x, 0, 128));
    }

    @Says("and works its HOURS told (none beyond HOUR 168), besides the ORDER:")
    static void termsDaysNoneBeyondHour168(Bells x) {
        cleared(x);
        Check.due("g: HOURS 166, 167", 0, Check.days(x, 22, 0));
        Check.due("on DAY 6", 6, x.dayOf(0));
        Check.due("g can't from HOUR 167 on", 1, Check.days(x, 23, 0));
        Check.due("on DAY 5", 5, x.dayOf(0));
        Check.due("h: HOUR 167", 0, Check.days(x, 23, 1));
        Check.due("on DAY 6", 6, x.dayOf(0));
        Check.due("i: all HOURS of DAY 6", 0, Check.days(x, 0, 2));
        Check.due("on DAY 6", 6, x.dayOf(0));
        Check.due("i can't from HOUR 145 on", 23, Check.days(x, 1, 2));
        Check.due("on DAY 5", 5, x.dayOf(0));
        x.ring(143, 1, 1);
        Check.due("besides the ORDER", 1, Check.days(x, 0, 0));
        Check.due("on DAY 6", 6, x.dayOf(0));
    }

    @Says({"the DAYS with the fewest HOURS HARMED of all USERS together;", "of like ones the first (GUILD by GUILD, the lesser DAY)."})
    static void termsDaysWithTheFewestAndTheFirst(Bells x) {
        Check.river(x, "reach a 100 0;reach b 100 0;colour c;guild g a 1 c 10;guild h b 1 c 10;user u a 0 24 c 0;user v b 0 24 c 0;"
            + "flow 0 50;flow 1 200;flow 2 50;flow 3 100;flow 4 99;flow 5 50;flow 6 50;");
        // From a: on DAY 1 or 3 only v is HARMED, in the HOUR in which it has come to b; from b: nobody.
        Check.due("g", 1, Check.days(x, 0, 0));
        Check.due("g on the first of like ones", 1, x.dayOf(0));
        Check.due("h", 0, Check.days(x, 0, 1));
        Check.due("h on the first of like ones", 1, x.dayOf(0));
        Check.due("h and g", 1, Check.days(x, 0, 1, 0));
        Check.due("h", 1, x.dayOf(0));
        Check.due("g", 1, x.dayOf(1));
        x.ring(24, 1, 1);
        Check.due("the ORDER harms nobody", 0, x.harm());
        Check.due("g at 23: both USERS in the last HOUR of the week", 2, Check.days(x, 23, 0));
        Check.due("on any other DAY some is left on the next one", 6, x.dayOf(0));
        Check.river(x, "reach a 100 0;colour c;guild g a 1 c 10;guild h a 1 c 10;");
        Check.due("all are like", 0, Check.days(x, 5, 1, 0));
        Check.due("the lesser DAY", 0, x.dayOf(0));
        Check.due("the lesser DAY", 0, x.dayOf(1));
    }

    /** Where either of two must be later, it is the GUILD told last. */
    @Says("GUILD by GUILD, the lesser DAY")
    static void termsDaysGuildByGuildAsTold(Bells x) {
        Check.river(x, "reach a 100 0;colour c;guild g a 1 c 40;guild h a 1 c 40;user u a 0 1 c 25;"
            + "flow 0 50;flow 1 50;flow 2 50;flow 3 50;flow 4 50;flow 5 50;flow 6 50;");
        Check.due("g, h", 0, Check.days(x, 0, 0, 1));
        Check.due("g", 0, x.dayOf(0));
        Check.due("h", 1, x.dayOf(1));
        Check.due("h, g", 0, Check.days(x, 0, 1, 0));
        Check.due("h", 0, x.dayOf(0));
        Check.due("g", 1, x.dayOf(1));
    }

    /** A slow RIVER with floods, so that what the BELLS leave matters for long. */
    private static Bells slow(Bells x) {
        Check.river(x, "reach a 300 60;reach b 200 90;colour c;colour d;guild g a 5 c 700 d 40;guild h b 3 d 300;guild i a 2 c 90;"
            + "user u a 3 21 c 45;user v b 0 24 c 60 d 33;flow 0 40;flow 1 70;flow 2 10;flow 3 250;flow 5 30;flow 6 260;flood 240;");
        x.ring(2, 0, 6);
        x.ring(31, 1, 9);
        x.ring(60, 2, 20);
        return x;
    }

    /** All six USERS are HARMED in every HOUR, whatever is done: these are the most HOURS that can be. */
    @Says("the DAYS with the fewest HOURS HARMED of all USERS together")
    static void termsDaysWithTheMostHarmThatCanBe(Bells x) {
        StringBuilder t = new StringBuilder("reach a 100 0;colour c;guild g a 1 c 9;" + NO_FLOW);
        for (char u = 'u'; u < 'u' + 6; u++) {
            t.append("user ").append(u).append(" a 0 24 c 0;");
        }
        Check.river(x, t.toString());
        x.ring(0, 0, 1);
        Check.due("harm", 1008, x.harm());
        Check.due("days", 1008, Check.days(x, 23, 0));
        Check.due("dayOf", 0, x.dayOf(0));
        Check.due("dam", 1008, x.dam(0, 900));
        Check.due("dam: no SHADE", 0, x.dam(0, 901));
        Check.due("late", 24, x.late(0));
        Check.due("exchange", 1008, x.exchange());
    }

    /** Each DAY is tried by a BELL. */
    @Says("besides the ORDER: the DAYS with the fewest HOURS HARMED")
    static void termsDaysAsBellsWouldDo(Bells none) {
        int[] hours = {5, 3, 2};
        for (int g = 0; g < 3; g++) {
            for (int hour = 0; hour < 24; hour += 11) {
                Bells x = slow(new Bells());
                int fewest = Integer.MAX_VALUE;
                int first = -1;
                for (int day = 0; day < 7; day++) {
                    if (x.ring(24 * day + hour, g, hours[g]) >= 0) {
                        int harm = x.harm();
                        first = harm < fewest ? day : first;
                        fewest = Math.min(fewest, harm);
                        x.undo();
                    }
                }
                x.harm();
                x.dam(0, 7);
                Check.due("days of GUILD " + g + " at " + hour, fewest, Check.days(x, hour, g));
                Check.due("dayOf", first, x.dayOf(0));
            }
        }
    }

    // ---- EXCHANGED

    private static Bells strongAndWeak(Bells x) {
        Check.river(x, "reach a 100 0;colour c;guild big a 1 c 100;guild sml a 1 c 4;user u a 0 12 c 5;"
            + "flow 0 50;flow 1 50;flow 2 50;flow 3 50;flow 4 50;flow 5 50;flow 6 50;");
        return x;
    }

    @Says("EXCHANGED: as long as there are two BELLS of unlike GUILDS, which, if their GUILDS are exchanged, make the HOURS HARMED fewer:")
    static void termsExchangedWhileItIsFewer(Bells x) {
        strongAndWeak(x);
        Check.due("no BELL", 0, x.exchange());
        x.ring(0, 0, 1);
        Check.due("one BELL", 4, x.exchange());
        Check.due("none is done", 0, x.exchanges());
        x.ring(12, 0, 1);
        Check.due("like GUILDS", 4, x.exchange());
        Check.due("none is done", 0, x.exchanges());
        x.ring(24, 1, 1);
        Check.due("no fewer by DAY 1", 4, x.exchange());
        Check.due("none is done", 0, x.exchanges());
        x.ring(36, 1, 1);
        Check.due("fewer by the evening", 0, x.exchange());
        Check.due("one is done", 1, x.exchanges());
        int[] guilds = {1, 0, 1, 0};
        for (int k = 0; k < 4; k++) {
            Check.due("GUILD of BELL " + k, guilds[k], x.bell(k, 1));
        }
        Check.due("again", 0, x.exchange());
        Check.due("none is done", 0, x.exchanges());
    }

    @Says("the first two (by their numbers) are;")
    static void termsExchangedTheFirstTwo(Bells x) {
        strongAndWeak(x);
        x.ring(0, 0, 1);
        x.ring(24, 1, 1);
        x.ring(60, 1, 1);
        x.ring(36, 1, 1);
        x.ring(72, 0, 1);
        x.ring(84, 1, 1);
        Check.due("harm", 8, x.harm());
        Check.due("exchange", 0, x.exchange());
        Check.due("exchanges", 2, x.exchanges());
        // BELL 0 and 2 first; then 1 and 2, 1 and 4 help no more, but 3 and 4 do.
        int[] guilds = {1, 1, 0, 0, 1, 1};
        int[] hours = {0, 24, 60, 36, 72, 84};
        for (int k = 0; k < 6; k++) {
            Check.due("GUILD of BELL " + k, guilds[k], x.bell(k, 1));
            Check.due("HOUR of BELL " + k, hours[k], x.bell(k, 0));
        }
    }

    @Says("50 times at most.")
    static void termsExchanged50TimesAtMost(Bells x) {
        PlanTest.ringFifty(x);
        int before = x.harm();
        int after = x.exchange();
        Check.due("50 at most", 50, x.exchanges());
        Check.due("each makes it fewer", true, after <= before - 50);
        Check.due("harm", after, x.harm());
        int later = x.exchange();
        Check.due("there are more", true, x.exchanges() > 0);
        Check.due("each makes it fewer", true, later <= after - x.exchanges());
    }

    @Says("make the HOURS HARMED fewer")
    static void termsExchangedFromOneHourToNone(Bells x) {
        Check.river(x, "reach a 100 0;colour c;guild g a 1 c 9;guild h a 1 c 1;user u a 5 6 c 4;flow 0 50;");
        x.ring(5, 0, 1);
        x.ring(9, 1, 1);
        Check.due("harm", 1, x.harm());
        Check.due("exchange", 0, x.exchange());
        Check.due("one", 1, x.exchanges());
    }

    /** The exchanges are done by hand, each tried by another ORDER. */
    @Says("as long as there are two BELLS of unlike GUILDS, which, if their GUILDS are exchanged, make the HOURS HARMED fewer: the first two")
    static void termsExchangedAsByHand(Bells x) {
        int[] hours = {1, 20, 50, 61, 90, 133};
        int[] guilds = {0, 1, 2, 0, 1, 2};
        int fewest = ordered(hours, guilds).harm();
        int done = 0;
        for (boolean found = true; found; ) {
            found = false;
            for (int a = 0; a < 6 && !found; a++) {
                for (int b = a + 1; b < 6 && !found; b++) {
                    swap(guilds, a, b);
                    int harm = ordered(hours, guilds).harm();
                    found = harm < fewest;
                    if (found) {
                        fewest = harm;
                        done++;
                    } else {
                        swap(guilds, a, b);
                    }
                }
            }
        }
        Check.due("some are done", true, done > 1);
        slow(x);
        Check.order(x, "");
        int[] asTold = {0, 1, 2, 0, 1, 2};
        for (int k = 0; k < 6; k++) {
            x.ring(hours[k], asTold[k], 8);
        }
        Check.due("exchange", fewest, x.exchange());
        Check.due("exchanges", done, x.exchanges());
        for (int k = 0; k < 6; k++) {
            Check.due("GUILD of BELL " + k, guilds[k], x.bell(k, 1));
        }
    }

    private static void swap(int[] row, int a, int b) {
        int first = row[a];
        row[a] = row[b];
        row[b] = first;
    }

    private static Bells ordered(int[] hours, int[] guilds) {
        Bells y = slow(new Bells());
        Check.order(y, "");
        for (int k = 0; k < hours.length; k++) {
            y.ring(hours[k], guilds[k], 8);
        }
        return y;
    }

    // ---- LATE

    @Says({"LATE: the greatest number of HOURS (0 to 24) by which a BELL may be later,", "with no more HOURS HARMED than as told"})
    static void termsLate0To24(Bells x) {
        strongAndWeak(x);
        x.ring(0, 1, 1);
        x.ring(12, 0, 1);
        x.ring(143, 0, 1);
        Check.due("24 at most", 24, x.late(0));
        Check.due("till HOUR 20: from 21 on 7 are left behind HOUR 24", 8, x.late(1));
        Check.due("25, 13, 7 of DAY 6, an HOUR later 50 too", 0, x.late(2));
        Check.due("nothing is changed", 12, x.bell(1, 0));
    }

    /** Two BELLS of big harm each morning; a later one that harms no more than as told is allowed to harm as much. */
    @Says({"and all lesser ones", "no more HOURS HARMED than as told"})
    static void termsLateAndAllLesserOnes(Bells x) {
        Check.river(x, "reach a 100 0;colour c;guild g a 1 c 9;user u a 6 8 c 0;user v a 12 13 c 0;");
        x.ring(5, 0, 1);
        Check.due("all passes at once: no harm, any HOUR", 24, x.late(0));
        Check.river(x, "reach a 100 0;reach b 100 0;colour c;guild g a 1 c 9;user u b 6 8 c 0;user v b 12 13 c 0;");
        x.ring(0, 0, 1);
        Check.due("harm", 0, x.harm());
        Check.due("5: from HOUR 6 on u is harmed, from 8 to 11 nobody would be", 5, x.late(0));
        x.undo();
        x.ring(7, 0, 1);
        Check.due("harm", 1, x.harm());
        Check.due("one is harmed as told, so one may be", 24, x.late(0));
        x.undo();
        x.ring(8, 0, 1);
        Check.due("till HOUR 11", 3, x.late(0));
    }

    @Says("(not beyond HOUR 168).")
    static void termsLateNotBeyondHour168(Bells x) {
        strongAndWeak(x);
        x.ring(167, 1, 1);
        x.ring(144, 1, 24);
        x.ring(143, 1, 24);
        x.ring(150, 1, 3);
        x.ring(143, 1, 1);
        x.ring(144, 1, 1);
        int[] due = {0, 0, 1, 15, 24, 23};
        for (int k = 0; k < due.length; k++) {
            Check.due("late(" + k + ")", due[k], x.late(k));
        }
    }

    /** Each number of HOURS is tried by a BELL. */
    @Says("by which a BELL may be later, and all lesser ones, with no more HOURS HARMED than as told")
    static void termsLateAsBellsWouldDo(Bells none) {
        for (int start = 3; start < 168; start += 15) {
            Bells x = slow(new Bells());
            x.ring(start, 0, 1);
            int told = x.harm();
            int late = x.late(3);
            x.undo();
            int due = 0;
            for (int later = 1; later <= 24 && due == later - 1; later++) {
                if (x.ring(start + later, 0, 1) >= 0) {
                    due = x.harm() <= told ? later : due;
                    x.undo();
                }
            }
            Check.due("late of a BELL of HOUR " + start, due, late);
        }
    }

    // ---- SEEN and NIGHT

    private static void led(Bells x, int g, int hour, int hours) {
        Check.due("led(0)", g, x.led(0));
        Check.due("led(1)", hour, x.led(1));
        Check.due("led(2)", hours, x.led(2));
    }

    @Says("SEEN: what PASSED of each COLOUR in some HOURS (up to 20 sights: HOUR, COLOUR, how much).")
    static void termsSeen20Sights(Bells x) {
        quick(x);
        for (int k = 0; k < 20; k++) {
            Check.due("see", k, x.see(k, 0, k == 7 ? 30 : 0));
        }
        Check.due("a 21st", -1, x.see(100, 0, 5));
        Check.due("sights", 20, x.count(6));
        Check.due("night: without the 21st", 1, x.night());
        led(x, 1, 7, 1);
    }

    @Says("what PASSED of each COLOUR in some HOURS")
    static void termsSeenOfEachColour(Bells x) {
        Check.river(x, "reach a 100 0;colour c;colour d;guild g a 1 c 9;guild h a 1 d 9;guild i a 1 c 9 d 9;");
        for (int hour = 49; hour < 52; hour++) {
            x.see(hour, 1, hour == 50 ? 9 : 0);
        }
        Check.due("of d: h or i", 2, x.night());
        x.see(50, 0, 0);
        Check.due("of c nothing: h", 1, x.night());
        led(x, 1, 50, 1);
        Bells y = new Bells();
        Check.river(y, "reach a 100 0;colour c;colour d;guild g a 1 c 9;guild h a 1 d 9;guild i a 1 c 9 d 9;");
        y.see(49, 0, 0);
        y.see(50, 0, 9);
        y.see(51, 0, 0);
        y.see(50, 1, 9);
        Check.due("of both: i", 1, y.night());
        led(y, 2, 50, 1);
    }

    @Says("NIGHT: GUILD g working h HOURS (1 to 6) from an HOUR of the week on, besides the ORDER:")
    static void termsNightOf1To6Hours(Bells x) {
        quick(x);
        x.see(50, 0, 100);
        x.see(51, 0, 0);
        Check.due("g till HOUR 50, 1 to 6 HOURS", 6, x.night());
        led(x, -1, -1, -1);
        x.see(45, 0, 100);
        Check.due("6 HOURS", 1, x.night());
        led(x, 0, 45, 6);
        x.see(44, 0, 100);
        Check.due("7 HOURS", 0, x.night());
        Bells y = quick(new Bells());
        y.ring(50, 0, 1);
        y.see(50, 0, 130);
        y.see(49, 0, 0);
        y.see(51, 0, 0);
        Check.due("h besides the ORDER's g", 1, y.night());
        led(y, 1, 50, 1);
    }

    @Says("from an HOUR of the week on")
    static void termsNightFromTheFirstToTheLastHour(Bells x) {
        quick(x);
        x.see(0, 0, 30);
        x.see(1, 0, 0);
        Check.due("the first HOUR", 1, x.night());
        led(x, 1, 0, 1);
        Bells y = quick(new Bells());
        y.see(167, 0, 30);
        y.see(166, 0, 0);
        Check.due("the last HOUR, no further than to HOUR 168", 1, y.night());
        led(y, 1, 167, 1);
        Bells z = quick(new Bells());
        Check.due("all HOURS of two GUILDS", 2 * (163 * 6 + 5 + 4 + 3 + 2 + 1), z.night());
    }

    @Says("besides the ORDER")
    static void termsNightInTheHourBehindTheFirst(Bells x) {
        Check.river(x, "reach a 100 0;colour c;guild g a 2 c 100;guild h a 2 c 30;flow 0 50;");
        x.ring(0, 0, 1);
        x.see(0, 0, 50);
        x.see(1, 0, 40);
        x.see(2, 0, 20);
        Check.due("half of 50 and 30, then half of the rest", 1, x.night());
        led(x, 1, 1, 1);
    }

    /** What was dyed at night passes among what the ORDER has left in the water and on the beds. */
    @Says("besides the ORDER: those by which all that was SEEN is just so")
    static void termsNightAmongWhatTheOrderLeft(Bells none) {
        // Of the first, 2 to 6 HOURS are alike, as the ORDER has g work from HOUR 2 on; of the fifth, what was dyed in the
        // HOURS ahead, which were not SEEN, had passed at once.
        int[][] nights = {{0, 0, 4}, {1, 1, 6}, {2, 2, 3}, {0, 70, 6}, {1, 95, 1}, {2, 144, 5}, {0, 160, 2}};
        int[] due = {5, 1, 1, 1, 6, 1, 1};
        for (int n = 0; n < nights.length; n++) {
            int[] night = nights[n];
            Bells x = slow(new Bells());
            Bells y = slow(new Bells());
            y.ring(night[1], night[0], night[2]);
            x.harm();
            x.dam(1, 3);
            for (int i = 0; i < 10; i++) {
                int hour = Math.min(167, night[1] + i);
                x.see(hour, 0, y.passed(hour, 0));
                x.see(hour, 1, y.passed(hour, 1));
            }
            Check.due("night of GUILD " + night[0] + " from " + night[1], due[n], x.night());
            if (due[n] == 1) {
                led(x, night[0], night[1], night[2]);
            }
        }
    }

    @Says("those by which all that was SEEN is just so: how many such (g, HOUR, h) there are;")
    static void termsNightAllSeenIsJustSo(Bells x) {
        quick(x);
        x.see(50, 0, 99);
        Check.due("not 100", 0, x.night());
        Bells y = quick(new Bells());
        y.see(50, 0, 101);
        Check.due("not 100", 0, y.night());
        Bells z = quick(new Bells());
        z.see(50, 0, 100);
        Check.due("g in HOUR 50", 21, z.night());
        z.see(50, 0, 100);
        Check.due("told twice", 21, z.night());
        z.see(50, 0, 30);
        Check.due("both can't be", 0, z.night());
        Bells none = new Bells();
        Check.river(none, "reach a 100 0;colour c;");
        Check.due("no GUILD", 0, none.night());
        none.see(50, 0, 0);
        Check.due("no GUILD", 0, none.night());
    }

    @Says("the first (by GUILDS, HOURS, h) is LED, if it is the only one.")
    static void termsNightLedIfItIsTheOnlyOne(Bells x) {
        Check.river(x, "reach a 100 0;colour c;guild g a 2 c 30;guild h a 2 c 30;");
        x.see(9, 0, 0);
        x.see(10, 0, 30);
        x.see(11, 0, 0);
        Check.due("g or h", 2, x.night());
        led(x, -1, -1, -1);
        x.ring(10, 0, 1);
        Check.due("either besides these HOURS, and g in HOUR 10, where it works already", 2 * besides(9, 10, 11) + 1, x.night());
        led(x, -1, -1, -1);
        x.undo();
        Check.river(x, "reach a 100 0;colour c;guild g a 2 c 31;guild h a 2 c 30;");
        x.see(9, 0, 0);
        x.see(10, 0, 30);
        x.see(11, 0, 0);
        Check.due("h", 1, x.night());
        led(x, 1, 10, 1);
        x.undo();
        led(x, 1, 10, 1);
    }

    /** How many (HOUR, h) touch none of these HOURS. */
    private static int besides(int... hours) {
        int found = 0;
        for (int start = 0; start < 168; start++) {
            for (int h = 1; h <= 6 && start + h <= 168; h++) {
                boolean touches = false;
                for (int hour : hours) {
                    touches |= hour >= start && hour < start + h;
                }
                found += touches ? 0 : 1;
            }
        }
        return found;
    }

    // ---- DAM and RAIN

    @Says("DAM: a REACH with another VOL: HOURS HARMED then.")
    static void termsDamWithAnotherVol(Bells x) {
        Check.river(x, "reach a 100 0;reach b 100 0;colour c;guild g a 1 c 40;user u a 0 24 c 9;user v b 0 24 c 9;flow 0 50;");
        x.ring(0, 0, 1);
        // a: 20, 10, 5; b: 20, 20, 15, 10, 6.
        Check.due("as told", 2 + 4, x.harm());
        Check.due("the same VOL", 6, x.dam(0, 100));
        Check.due("a of 50: all goes on; b: 40, 20, 10, 5", 3, x.dam(0, 50));
        Check.due("a of 1", 3, x.dam(0, 1));
        Check.due("b of 50: its SHADE is 40, 20, 10, 4", 2 + 3, x.dam(1, 50));
        Check.due("b of 9999: no SHADE at all", 2, x.dam(1, 9999));
        Check.due("nothing is changed", 6, x.harm());
        Check.due("nothing is changed", 100, x.reach(0, 0));
    }

    /** The draws by the document's words, in numbers that don't wrap by themselves. */
    private static int[] draws(int seed, int many) {
        int[] draws = new int[many];
        long x = seed & 0xffffffffL;
        for (int i = 0; i < many; i++) {
            x = (x * 1103515245L + 12345L) & 0xffffffffL;
            draws[i] = (int) ((x >> 8) % 5);
        }
        return draws;
    }

    private static int weeksWith(int seed, int weeks, int day, boolean[] harming) {
        int[] draws = draws(seed, 7 * weeks);
        int found = 0;
        for (int w = 0; w < weeks; w++) {
            found += harming[draws[7 * w + day]] ? 1 : 0;
        }
        return found;
    }

    private static final int[] SEEDS = {0, 1, -1, 12345, -987654321, Integer.MAX_VALUE, Integer.MIN_VALUE};

    @Says({"RAIN by a seed x: for each draw of n x becomes x * 1103515245 + 12345 (an int, wrapping), the draw is (x >>> 8) % n:",
        "for each DAY a draw of 5:", "weeks with somebody HARMED."})
    static void termsRainDrawsForEachDay(Bells none) {
        boolean[] ifHalf = {true, false, false, false, false};
        for (int day = 0; day < 7; day++) {
            Bells x = new Bells();
            Check.river(x, "reach a 100 0;colour c;guild g a 1 c 9;user u a 0 24 c 0;flow " + day + " 199;");
            x.ring(24 * day, 0, 1);
            for (int seed : SEEDS) {
                Check.due("seed " + seed + ", DAY " + day, weeksWith(seed, 20, day, ifHalf), x.rain(20, seed));
                Check.due("seed " + seed + ", DAY " + day, weeksWith(seed, 1, day, ifHalf), x.rain(1, seed));
            }
        }
    }

    @Says({"week by week (1 to 20),", "each with nothing anywhere at first:"})
    static void termsRain1To20WeeksEachWithNothingAtFirst(Bells x) {
        Check.river(x, "reach a 100 500;colour c;guild g a 1 c 100;user u a 0 1 c 0;flow 0 199;flow 6 0;flood 400;");
        x.ring(167, 0, 1);
        Check.due("what is left of a week is not there in the next one", 0, x.rain(20, 5));
        Check.due("0 weeks", -1, x.rain(0, 5));
        Check.due("21 weeks", -1, x.rain(21, 5));
        Check.due("-1 weeks", -1, x.rain(-1, 5));
        x.ring(0, 0, 1);
        boolean[] ifHalf = {true, false, false, false, false};
        for (int weeks = 1; weeks <= 20; weeks++) {
            Check.due(weeks + " weeks", weeksWith(5, weeks, 0, ifHalf), x.rain(weeks, 5));
        }
    }

    @Says("0: half of the flow told (cut), 4: three times it (9999 at most), else as told:")
    static void termsRainHalfAndThreeTimes(Bells none) {
        boolean[] ifHalf = {true, false, false, false, false};
        boolean[] never = {false, false, false, false, false};
        boolean[] butThree = {true, true, true, true, false};
        boolean[] always = {true, true, true, true, true};
        int[] flows = {200, 199, 100, 99, 34, 33, 0};
        boolean[][] harming = {never, ifHalf, ifHalf, butThree, butThree, always, always};
        for (int i = 0; i < flows.length; i++) {
            Bells x = new Bells();
            Check.river(x, "reach a 100 0;colour c;guild g a 1 c 100;user u a 0 1 c 0;flow 3 " + flows[i] + ";");
            x.ring(72, 0, 1);
            for (int seed : SEEDS) {
                Check.due("flow " + flows[i], weeksWith(seed, 20, 3, harming[i]), x.rain(20, seed));
            }
        }
        int[] great = {9999, 3333, 3299};
        boolean[][] byGreat = {ifHalf, butThree, always};
        for (int i = 0; i < great.length; i++) {
            Bells x = new Bells();
            Check.river(x, "reach a 9999 0;colour c;guild g a 1 c 9999;user u a 0 1 c 0;flow 3 " + great[i] + ";");
            x.ring(72, 0, 1);
            for (int seed : SEEDS) {
                Check.due("flow " + great[i], weeksWith(seed, 20, 3, byGreat[i]), x.rain(20, seed));
            }
        }
    }

    /** What one question tries leaves no trace for the next, in whichever order they are asked. */
    @Says("DAM: a REACH with another VOL")
    static void termsQuestionsLeaveNoTrace(Bells none) {
        int questions = 9;
        for (int first = 0; first < questions; first++) {
            Bells x = slow(new Bells());
            int[] ahead = new int[questions];
            for (int q = 0; q < questions; q++) {
                ahead[q] = ask(slow(new Bells()), q);
            }
            for (int i = 0; i < questions; i++) {
                int q = (first + i * 2) % questions;
                Check.due("question " + q, ahead[q], ask(x, q));
            }
        }
    }

    private static int ask(Bells x, int question) {
        switch (question) {
            case 0:
                return x.harm();
            case 1:
                return x.dam(1, 30);
            case 2:
                return x.rain(5, 77);
            case 3:
                return x.pulse(0, 1, 555, 2);
            case 4:
                return x.blame(0, 1);
            case 5:
                return x.late(1);
            case 6:
                return Check.days(x, 9, 1, 2) * 100 + x.dayOf(0) * 10 + x.dayOf(1);
            case 7:
                return x.night();
            default:
                return x.sum(0, 1);
        }
    }

    // ---- what holds for all

    @Says("A new RIVER has no BELLS, no SENTENCE, nothing SEEN.")
    static void termsNewRiverHasNothing(Bells x) {
        Look.small(x);
        Check.due("BELLS", 2, x.count(5));
        Check.due("sights", 2, x.count(6));
        Check.due("said", true, x.said(-1) > 0);
        Check.riverFault(x, "colour", 1, 6);
        Check.due("behind a FAULT BELLS", 2, x.count(5));
        Check.due("behind a FAULT sights", 2, x.count(6));
        Check.due("behind a FAULT said", true, x.said(-1) > 0);
        Check.riverTaken(x, "reach a 100 0;colour c;guild g a 1 c 5;", 3);
        Check.due("BELLS", 0, x.count(5));
        Check.due("sights", 0, x.count(6));
        Check.due("said", -1, x.said(-1));
        Check.due("undo", -1, x.undo());
        Check.throwsNoSuch("bell(0, 0)", () -> x.bell(0, 0));
        Check.due("night, nothing SEEN", 993, x.night());
        Check.due("put in", 0, x.sum(0, 0));
    }

    @Says("A new RIVER has no BELLS")
    static void termsNewRiverBehindAnOrdersText(Bells x) {
        Look.small(x);
        Check.orderTaken(x, "bell 0 0 g 5;bell 1 0 h 5;", 2);
        Check.due("put in", 450, x.sum(0, 0));
        Check.riverTaken(x, "reach a 100 0;colour c;guild g a 1 c 5;", 3);
        Check.due("BELLS", 0, x.count(5));
        Check.due("put in", 0, x.sum(0, 0));
        Check.orderFault(x, "bell 0 0 g 5;bell 1 0 g 5;x", 1, 26);
        Check.sentenceFault(x, "works g or x", 1, 11);
        Check.riverTaken(x, "reach a 100 0;colour c;guild g a 1 c 5;", 3);
        Check.due("BELLS of an ORDER with a FAULT", 0, x.count(5));
        Check.due("a SENTENCE with a FAULT", -1, x.said(-1));
        Check.due("flow without", 100, x.flow(0));
    }

    @Says("A call that throws changes nothing.")
    static void termsThrowingChangesNothing(Bells x) {
        Look.small(x);
        x.feed(1, 2, 3, 4, 5);
        String before = Look.at(x);
        int[] wrong = {-1, 2, Integer.MAX_VALUE, Integer.MIN_VALUE};
        for (int no : wrong) {
            Check.throwsNoSuch("reach", () -> x.reach(no, 0));
            Check.throwsNoSuch("reach", () -> x.reach(0, no));
            Check.throwsNoSuch("guild", () -> x.guild(no, 0));
            Check.throwsNoSuch("user", () -> x.user(no, 0));
            Check.throwsNoSuch("bell", () -> x.bell(no, 0));
        }
        int[] wrongWhat = {-1, 7, Integer.MAX_VALUE, Integer.MIN_VALUE};
        for (int no : wrongWhat) {
            Check.throwsNoSuch("guild", () -> x.guild(0, no));
            Check.throwsNoSuch("user", () -> x.user(0, no));
            Check.throwsNoSuch("bell", () -> x.bell(0, no));
            Check.throwsNoSuch("flow", () -> x.flow(no));
        }
        Check.same("all", before, Look.at(x));
    }
}
