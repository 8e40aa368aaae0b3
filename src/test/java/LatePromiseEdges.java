/** Promises 23 to 37: DAYS, exchanges, LATE, sights, DAM, RAIN, SENTENCES, images, counts. */
final class LatePromiseEdges {
    private static final int[] FAR = {Integer.MIN_VALUE, -2, -1, 1000, Integer.MAX_VALUE};

    private LatePromiseEdges() {
    }

    private static Bells small(Bells x) {
        return Look.small(x);
    }

    /** All that is put in passes at once, but on DAY 0 half of it stays. */
    private static Bells quick(Bells x) {
        Check.river(x, "reach a 100 0;colour c;guild g a 1 c 100;guild h a 1 c 4;user u a 0 12 c 5;flow 0 50;");
        return x;
    }

    // ---- 23 and 24: days, dayOf

    @Says("DAYS of the tape's GUILDS at an HOUR of the day (0 to 23): the fewest HOURS HARMED;")
    static void promise23DaysAtAnHourOfTheDay(Bells x) {
        quick(x);
        Check.due("days(0)", 0, Check.days(x, 0, 0));
        Check.due("days(23)", 0, Check.days(x, 23, 0));
        x.ring(0, 0, 1);
        Check.due("besides the ORDER", 4, Check.days(x, 0, 1));
        Check.due("no BELL has come", 1, x.count(5));
        Check.due("days(24)", -2, Check.days(x, 24, 0));
        Check.due("days(-1)", -2, Check.days(x, -1, 0));
        for (int no : FAR) {
            Check.due("days(" + no + ")", -2, Check.days(x, no, 0));
        }
    }

    /** No GUILD works more than 24 HOURS, so that one that begins on DAY 0 can always: NONE never comes. */
    @Says("NONE: none can;")
    static void promise23DaysTheLongestWorkCan(Bells x) {
        Check.river(x, "reach a 100 0;colour c;guild g a 24 c 1;guild h a 24 c 1;guild i a 24 c 1;guild j a 24 c 1;user u a 0 24 c 0;"
            + "flow 6 0;");
        Check.due("four of 24 HOURS at 23", 0, Check.days(x, 23, 0, 1, 2, 3));
        for (int i = 0; i < 4; i++) {
            Check.due("dayOf(" + i + ")", 0, x.dayOf(i));
        }
        x.ring(143, 0, 24);
        Check.due("harmed on DAY 6 by the ORDER", 24, Check.days(x, 23, 1));
        Check.due("on DAY 5 it would be no more", 0, x.dayOf(0));
    }

    @Says("-2: not as told, or there would be more than 40 BELLS.")
    static void promise23DaysNotAsTold(Bells x) {
        quick(x);
        Check.due("no GUILD told", -2, Check.days(x, 0));
        Check.due("no such GUILD", -2, Check.days(x, 0, 2));
        Check.due("no such GUILD", -2, Check.days(x, 0, 0, 255));
        Check.due("one twice", -2, Check.days(x, 0, 1, 1));
        Check.due("dayOf", -1, x.dayOf(0));
        for (int k = 0; k < 38; k++) {
            x.ring(30, 1, 1);
        }
        Check.due("40 BELLS", 0, Check.days(x, 0, 0, 1));
        x.ring(30, 1, 1);
        Check.due("41 BELLS", -2, Check.days(x, 0, 0, 1));
        Check.due("40 BELLS", 0, Check.days(x, 0, 1));
        x.ring(30, 1, 1);
        Check.due("41 BELLS", -2, Check.days(x, 0, 1));
        Check.due("BELLS", 40, x.count(5));
    }

    @Says("-2: not as told")
    static void promise23DaysNotAsToldChangesNothingButTheTape(Bells x) {
        small(x);
        Check.due("days", true, Check.days(x, 0, 1, 0) >= 0);
        String before = Look.at(x);
        Check.due("one twice", -2, Check.days(x, 0, 1, 1));
        Check.due("no HOUR of the day", -2, Check.days(x, 24, 1));
        Check.same("all", before, Look.at(x));
    }

    @Says("The DAY of the i-th by the latest days() that was 0 or above;")
    static void promise24DayOfTheLatestDays(Bells x) {
        quick(x);
        Check.due("days", 0, Check.days(x, 0, 1, 0));
        Check.due("h on DAY 0", 0, x.dayOf(0));
        Check.due("g on DAY 1", 1, x.dayOf(1));
        Check.due("a days that is not as told", -2, Check.days(x, 0, 0, 0));
        Check.due("h on DAY 0", 0, x.dayOf(0));
        Check.due("g on DAY 1", 1, x.dayOf(1));
        Check.due("days of one", 0, Check.days(x, 0, 0));
        Check.due("g on DAY 1", 1, x.dayOf(0));
        Check.due("no second", -1, x.dayOf(1));
    }

    @Says("NONE: there is none such, or ahead of any.")
    static void promise24DayOfNoneSuch(Bells x) {
        Check.due("ahead of any", -1, x.dayOf(0));
        quick(x);
        Check.due("not as told", -2, Check.days(x, 0, 5));
        Check.due("ahead of any that was 0 or above", -1, x.dayOf(0));
        Check.days(x, 0, 1, 0);
        Check.due("dayOf(2)", -1, x.dayOf(2));
        Check.due("dayOf(4)", -1, x.dayOf(4));
        for (int no : FAR) {
            Check.due("dayOf(" + no + ")", -1, x.dayOf(no));
        }
    }

    // ---- 25 to 27: exchange, exchanges, late

    @Says("The ORDER is EXCHANGED: HOURS HARMED then.")
    static void promise25ExchangeChangesTheOrder(Bells x) {
        Check.due("exchange of an empty RIVER", 0, x.exchange());
        quick(x);
        Check.due("no BELLS", 0, x.exchange());
        x.ring(0, 0, 1);
        x.ring(12, 1, 3);
        Check.due("harm", 4, x.harm());
        Check.due("exchange", 0, x.exchange());
        Check.due("harm", 0, x.harm());
        int[][] due = {{0, 1, 1}, {12, 0, 3}};
        for (int k = 0; k < 2; k++) {
            for (int what = 0; what < 3; what++) {
                Check.due("bell(" + k + ", " + what + ")", due[k][what], x.bell(k, what));
            }
        }
        Check.due("BELLS", 2, x.count(5));
        Check.due("undo", 1, x.undo());
        Check.due("harm", 0, x.harm());
    }

    @Says("HOURS HARMED then")
    static void promise25ExchangeThatCantHelpChangesNothing(Bells x) {
        quick(x);
        x.ring(0, 0, 1);
        x.ring(1, 1, 1);
        String before = Look.at(x);
        Check.due("as many HOURS, an HOUR later", 4, x.exchange());
        Check.due("none is done", 0, x.exchanges());
        Check.same("all", before, Look.at(x));
    }

    @Says("How many exchanges the latest exchange() did; 0 ahead of any.")
    static void promise26ExchangesOfTheLatest(Bells x) {
        Check.due("ahead of any", 0, x.exchanges());
        quick(x);
        x.ring(0, 0, 1);
        x.ring(12, 1, 1);
        Check.due("ahead of any", 0, x.exchanges());
        x.exchange();
        Check.due("one", 1, x.exchanges());
        Check.due("asked again", 1, x.exchanges());
        x.undo();
        Check.river(x, "");
        Check.due("behind another RIVER", 1, x.exchanges());
        x.exchange();
        Check.due("the latest did none", 0, x.exchanges());
    }

    @Says("LATE of BELL k (nothing is changed);")
    static void promise27LateChangesNothing(Bells x) {
        small(x);
        String before = Look.at(x);
        Check.due("late(0)", true, x.late(0) >= 0);
        Check.due("late(1)", true, x.late(1) >= 0);
        Check.same("all", before, Look.at(x));
    }

    @Says("NONE: no such one.")
    static void promise27LateNoSuchOne(Bells x) {
        Check.due("late of an empty RIVER", -1, x.late(0));
        quick(x);
        Check.due("no BELL", -1, x.late(0));
        x.ring(30, 1, 1);
        Check.due("late(0)", 24, x.late(0));
        Check.due("late(1)", -1, x.late(1));
        for (int no : FAR) {
            Check.due("late(" + no + ")", -1, x.late(no));
        }
        x.undo();
        Check.due("undone", -1, x.late(0));
    }

    // ---- 28 to 30: see, night, led

    @Says("A sight more: its number;")
    static void promise28SeeASightMore(Bells x) {
        quick(x);
        Check.due("see(0, 0, 0)", 0, x.see(0, 0, 0));
        Check.due("see(167, 0, ..)", 1, x.see(167, 0, Integer.MAX_VALUE));
        Check.due("see(0, 0, 0) again", 2, x.see(0, 0, 0));
        Check.due("sights", 3, x.count(6));
    }

    @Says("NONE: there are 20, or not as told (much 0 or more).")
    static void promise28SeeRefused(Bells x) {
        Check.due("see of an empty RIVER", -1, x.see(0, 0, 0));
        quick(x);
        Check.due("see(168, ..)", -1, x.see(168, 0, 0));
        Check.due("see(0, 1, ..)", -1, x.see(0, 1, 0));
        Check.due("see(0, 0, -1)", -1, x.see(0, 0, -1));
        Check.due("see(0, 0, the least)", -1, x.see(0, 0, Integer.MIN_VALUE));
        for (int no : FAR) {
            Check.due("see(" + no + ", ..)", -1, x.see(no, 0, 0));
            Check.due("see(0, " + no + ", ..)", -1, x.see(0, no, 0));
        }
        Check.due("sights", 0, x.count(6));
        Check.due("nothing is SEEN", 2 * 993, x.night());
        for (int k = 0; k < 20; k++) {
            Check.due("see", k, x.see(k, 0, 0));
        }
        Check.due("a 21st", -1, x.see(100, 0, 100));
        Check.due("sights", 20, x.count(6));
        Check.due("the 21st is not SEEN", true, x.night() > 0);
    }

    @Says("NIGHT: how many there are.")
    static void promise29NightHowMany(Bells x) {
        Check.due("of an empty RIVER", 0, x.night());
        quick(x);
        Check.due("nothing SEEN", 2 * 993, x.night());
        x.see(100, 0, 4);
        Check.due("h in HOUR 100", 21, x.night());
        x.see(99, 0, 0);
        Check.due("from HOUR 100 on", 6, x.night());
        x.see(102, 0, 0);
        Check.due("one HOUR or two", 2, x.night());
        x.see(101, 0, 4);
        Check.due("two", 1, x.night());
        x.see(101, 0, 5);
        Check.due("none", 0, x.night());
        Check.due("BELLS", 0, x.count(5));
        Check.due("sights", 5, x.count(6));
    }

    @Says("LED by the latest night(): 0 the GUILD, 1 the HOUR, 2 h;")
    static void promise30LedByTheLatestNight(Bells x) {
        quick(x);
        x.see(99, 0, 0);
        x.see(100, 0, 4);
        x.see(101, 0, 4);
        x.see(102, 0, 0);
        Check.due("night", 1, x.night());
        int[] due = {1, 100, 2};
        for (int what = 0; what < 3; what++) {
            Check.due("led(" + what + ")", due[what], x.led(what));
        }
        x.see(102, 0, 1);
        Check.due("until the next night", 100, x.led(1));
        Check.river(x, "reach a 100 0;colour c;guild g a 1 c 9;");
        Check.due("behind another RIVER", 100, x.led(1));
        x.see(0, 0, 9);
        x.see(1, 0, 0);
        Check.due("night", 1, x.night());
        int[] then = {0, 0, 1};
        for (int what = 0; what < 3; what++) {
            Check.due("led(" + what + ")", then[what], x.led(what));
        }
    }

    @Says("NONE: not just one, another what, or ahead of any.")
    static void promise30LedNone(Bells x) {
        for (int what = -1; what < 4; what++) {
            Check.due("ahead of any", -1, x.led(what));
        }
        quick(x);
        x.see(100, 0, 4);
        x.see(99, 0, 0);
        x.see(101, 0, 0);
        Check.due("night", 1, x.night());
        Check.due("led(3)", -1, x.led(3));
        for (int no : FAR) {
            Check.due("led(" + no + ")", -1, x.led(no));
        }
        Check.due("led(0)", 1, x.led(0));
        x.see(101, 0, 1);
        Check.due("night: none", 0, x.night());
        for (int what = 0; what < 3; what++) {
            Check.due("none", -1, x.led(what));
        }
        quick(x);
        Check.due("night: many", 2 * 993, x.night());
        for (int what = 0; what < 3; what++) {
            Check.due("many", -1, x.led(what));
        }
    }

    // ---- 31 and 32: dam, rain

    @Says("DAM: HOURS HARMED with VOL v (1 to 9999) of REACH r;")
    static void promise31DamOf1To9999(Bells x) {
        quick(x);
        x.ring(0, 0, 1);
        String before = Look.at(x);
        Check.due("dam(0, 100)", 4, x.dam(0, 100));
        Check.due("dam(0, 50)", 0, x.dam(0, 50));
        Check.due("dam(0, 51): one is left", 0, x.dam(0, 51));
        Check.due("dam(0, 1)", 0, x.dam(0, 1));
        Check.due("dam(0, 9999): SHADE 0", 0, x.dam(0, 9999));
        Check.due("dam(0, 1000): SHADE 9 to 6 in HOURS 0 to 10", 11, x.dam(0, 1000));
        Check.same("all", before, Look.at(x));
    }

    @Says("NONE: no such ones.")
    static void promise31DamNoSuchOnes(Bells x) {
        Check.due("dam of an empty RIVER", -1, x.dam(0, 1));
        quick(x);
        Check.due("dam(1, 5)", -1, x.dam(1, 5));
        Check.due("dam(0, 0)", -1, x.dam(0, 0));
        Check.due("dam(0, 10000)", -1, x.dam(0, 10000));
        Check.due("dam(0, -1)", -1, x.dam(0, -1));
        Check.due("dam(0, the least)", -1, x.dam(0, Integer.MIN_VALUE));
        Check.due("dam(0, the greatest)", -1, x.dam(0, Integer.MAX_VALUE));
        for (int no : FAR) {
            Check.due("dam(" + no + ", 5)", -1, x.dam(no, 5));
        }
        Check.due("VOL", 100, x.reach(0, 0));
    }

    @Says("RAIN of so many weeks by a seed: how many with somebody HARMED;")
    static void promise32RainHowManyWeeks(Bells x) {
        Check.due("of an empty RIVER", 0, x.rain(20, 1));
        Check.river(x, "reach a 100 0;colour c;guild g a 1 c 9;user u a 0 24 c 0;user v a 0 24 c 0;flow 0 0;");
        Check.due("no BELL", 0, x.rain(20, 1));
        x.ring(0, 0, 1);
        String before = Look.at(x);
        Check.due("each week, counted once", 20, x.rain(20, 1));
        Check.due("one week", 1, x.rain(1, 1));
        Check.due("any seed", 20, x.rain(20, Integer.MIN_VALUE));
        Check.due("any seed", 20, x.rain(20, Integer.MAX_VALUE));
        Check.due("the same seed", x.rain(7, -5), x.rain(7, -5));
        Check.same("all", before, Look.at(x));
    }

    @Says("NONE: not as told.")
    static void promise32RainNotAsTold(Bells x) {
        quick(x);
        Check.due("rain(1, ..)", 0, x.rain(1, 7));
        Check.due("rain(20, ..)", 0, x.rain(20, 7));
        Check.due("rain(0, ..)", -1, x.rain(0, 7));
        Check.due("rain(21, ..)", -1, x.rain(21, 7));
        for (int no : FAR) {
            Check.due("rain(" + no + ", ..)", -1, x.rain(no, 7));
        }
    }

    // ---- 33 and 34: sentence, said

    @Says("The tape is the SENTENCE now: how many ONES (each not, bracket and other one);")
    static void promise33SentenceHowManyOnes(Bells x) {
        small(x);
        String[] texts = {"day=1", "not day=1", "(day=1)", "not(day=1)", "day=1 or day=2", "day=1 and not(day=2 or (day=3))",
            "works g and harmed u or shade c a<5 and passed=0 and hour>5"};
        int[] ones = {1, 2, 2, 3, 2, 6, 5};
        for (int i = 0; i < texts.length; i++) {
            Check.sentenceTaken(x, texts[i], ones[i]);
        }
        Check.sentence(x, "hour=5");
        Check.due("said of the latest", 5, x.said(0));
        Check.due("BELLS stay", 2, x.count(5));
    }

    @Says("-1 less the place of a FAULT: it stays.")
    static void promise33SentenceStaysBehindAFault(Bells x) {
        small(x);
        String before = Look.at(x);
        Check.sentenceFault(x, "hour=5 and not(works g or", 1, 25);
        Check.same("all but the fault", before, Look.at(x).replace("fault 1", "fault 0"));
        Check.sentenceFault(x, "", 1, 0);
        Check.due("it stays", true, x.said(-1) > 0);
        Bells y = new Bells();
        Check.sentenceFault(y, "hour", 1, 4);
        Check.due("none stays", -1, y.said(-1));
    }

    @Says("Of how many HOURS of the week it may be said (k NONE), or the k-th such HOUR;")
    static void promise34SaidHoursAndTheKth(Bells x) {
        Check.sentenceTaken(x, "hour<9999", 1);
        Check.due("of all", 168, x.said(-1));
        for (int k = 0; k < 168; k += 167) {
            Check.due("said(" + k + ")", k, x.said(k));
        }
        Check.due("said(168)", -1, x.said(168));
        Check.sentenceTaken(x, "hour=166 or hour=3", 2);
        Check.due("of two", 2, x.said(-1));
        Check.due("said(0)", 3, x.said(0));
        Check.due("said(1)", 166, x.said(1));
        Check.due("said(2)", -1, x.said(2));
        Check.sentenceTaken(x, "hour>167", 1);
        Check.due("of none", 0, x.said(-1));
        Check.due("said(0)", -1, x.said(0));
    }

    @Says("NONE: there is no SENTENCE, none such, another k.")
    static void promise34SaidNone(Bells x) {
        for (int k = -2; k < 3; k++) {
            Check.due("no SENTENCE", -1, x.said(k));
        }
        Check.sentence(x, "hour=5");
        Check.due("said(-1)", 1, x.said(-1));
        Check.due("said(1)", -1, x.said(1));
        for (int no : FAR) {
            if (no != -1) {
                Check.due("said(" + no + ")", -1, x.said(no));
            }
        }
        Check.river(x, "");
        Check.due("no SENTENCE behind a new RIVER", -1, x.said(-1));
    }

    // ---- 35 and 36: image, restore

    @Says("RIVER, ORDER, sights and SENTENCE are kept in place k (0, 1): true;")
    static void promise35ImageInPlaces0And1(Bells x) {
        small(x);
        String first = Look.at(x);
        Check.due("image(0)", true, x.image(0));
        quick(x);
        x.ring(9, 1, 1);
        Check.due("image(1)", true, x.image(1));
        Check.due("restore(0)", true, x.restore(0));
        Check.same("as kept in 0", first, Look.at(x));
        Check.due("restore(1)", true, x.restore(1));
        Check.due("GUILD as kept in 1", 100, x.guild(0, 2));
        Check.due("BELL as kept in 1", 9, x.bell(0, 0));
        Check.due("SENTENCE as kept in 1: none", -1, x.said(-1));
        Check.due("sights as kept in 1: none", 0, x.count(6));
    }

    @Says("sights and SENTENCE are kept")
    static void promise35ImageKeepsSightsAndSentence(Bells x) {
        quick(x);
        x.see(99, 0, 0);
        x.see(100, 0, 4);
        x.see(101, 0, 0);
        Check.sentence(x, "works g or hour=7");
        x.ring(20, 0, 1);
        x.image(1);
        x.see(99, 0, 1);
        Check.sentence(x, "hour=8");
        Check.due("night", 0, x.night());
        x.undo();
        x.restore(1);
        Check.due("night as kept", 1, x.night());
        Check.due("said as kept", 2, x.said(-1));
        Check.due("said as kept", 20, x.said(1));
        Check.due("sights", 3, x.count(6));
        x.see(98, 0, 3);
        x.undo();
        x.image(1);
        x.restore(1);
        Check.due("kept anew", 4, x.count(6));
        Check.due("kept anew", 0, x.count(5));
    }

    @Says("sights and SENTENCE are kept")
    static void promise35ImageKeepsSightsFromOthers(Bells x) {
        Check.river(x, "reach a 100 0;colour c;colour d;guild g a 1 c 9;guild h a 1 d 9;");
        for (int hour = 99; hour < 102; hour++) {
            x.see(hour, 1, hour == 100 ? 9 : 0);
        }
        Check.sentence(x, "hour=3 or hour=4");
        x.image(0);
        Check.river(x, "reach a 100 0;colour c;colour d;guild g a 1 c 9;guild h a 1 d 9;");
        for (int hour = 9; hour < 12; hour++) {
            x.see(hour, 0, 7);
        }
        Check.sentence(x, "not works g and not hour>9");
        Check.due("night", 0, x.night());
        x.restore(0);
        Check.due("night as kept", 1, x.night());
        int[] due = {1, 100, 1};
        for (int what = 0; what < 3; what++) {
            Check.due("led(" + what + ")", due[what], x.led(what));
        }
        Check.due("said as kept", 2, x.said(-1));
        Check.due("said as kept", 3, x.said(0));
    }

    @Says("false: no such one.")
    static void promise35ImageNoSuchPlace(Bells x) {
        small(x);
        Check.due("image(2)", false, x.image(2));
        for (int no : FAR) {
            Check.due("image(" + no + ")", false, x.image(no));
        }
        Check.due("nothing is kept", false, x.restore(0));
        Check.due("nothing is kept", false, x.restore(1));
        Check.due("nothing is kept", false, x.restore(2));
    }

    @Says("They are as kept in place k (the tape, and what other calls told last, stays): true;")
    static void promise36RestoreLeavesTheTapeAndWhatWasTold(Bells x) {
        quick(x);
        x.image(0);
        x.ring(0, 0, 1);
        x.ring(12, 1, 1);
        x.exchange();
        Check.days(x, 0, 1, 0);
        x.see(99, 0, 0);
        x.see(100, 0, 4);
        x.see(101, 0, 0);
        x.night();
        Check.order(x, "bell 0 0 q 1;");
        x.feed(0x636f6c6f, 0x75722072, 0x65643b63, 0x6f6c6f75, 0x7220623b);
        String told = Look.latest(x);
        Check.same("told", " fault 3 exchanges 1 led 1 dayOf 0 led 100 dayOf 1 led 1 dayOf -1 led -1 dayOf -1", told);
        Check.due("restore", true, x.restore(0));
        Check.same("what was told last", told, Look.latest(x));
        Check.due("BELLS", 0, x.count(5));
        Check.due("sights", 0, x.count(6));
        Check.due("bytes", 20, x.count(7));
        Check.due("the tape", 2, x.river());
    }

    /** What is done behind an image or a restore does not reach what is kept. */
    @Says("They are as kept in place k")
    static void promise36RestoreAgainAndAgain(Bells x) {
        quick(x);
        x.ring(0, 0, 1);
        x.ring(12, 1, 1);
        x.image(0);
        for (int i = 0; i < 3; i++) {
            Check.due("exchange", 0, x.exchange());
            Check.due("one", 1, x.exchanges());
            x.ring(50, 1, 1);
            x.see(5, 0, 5);
            Check.due("restore", true, x.restore(0));
            Check.due("GUILD as kept", 0, x.bell(0, 1));
            Check.due("BELLS as kept", 2, x.count(5));
            Check.due("sights as kept", 0, x.count(6));
            Check.due("harm as kept", 4, x.harm());
        }
    }

    @Says("They are as kept in place k")
    static void promise36RestoreIsAskedOfAtOnce(Bells x) {
        quick(x);
        x.ring(0, 0, 1);
        x.image(0);
        x.undo();
        x.image(1);
        for (int i = 0; i < 2; i++) {
            x.restore(0);
            Check.due("harm with the BELL", 4, x.harm());
            Check.due("put in", 100, x.sum(0, 0));
            x.restore(1);
            Check.due("harm without", 0, x.harm());
            Check.due("put in", 0, x.sum(0, 0));
        }
    }

    @Says("false: no such one, or nothing is kept there.")
    static void promise36RestoreOfNothing(Bells x) {
        small(x);
        String before = Look.at(x);
        Check.due("restore(0)", false, x.restore(0));
        Check.due("restore(1)", false, x.restore(1));
        Check.due("restore(2)", false, x.restore(2));
        for (int no : FAR) {
            Check.due("restore(" + no + ")", false, x.restore(no));
        }
        Check.same("all", before, Look.at(x));
        x.image(1);
        Check.due("restore(0): only 1 is kept", false, x.restore(0));
        Check.due("restore(1)", true, x.restore(1));
        Check.due("restore(2)", false, x.restore(2));
    }

    // ---- 37: count

    @Says("0 REACHES, 1 COLOURS, 2 GUILDS, 3 USERS, 4 pebbles, 5 BELLS, 6 sights, 7 bytes of the tape.")
    static void promise37CountOfEach(Bells x) {
        Check.river(x, "reach a 5 5;reach b 5 5;reach d 5 5;reach e 5 5;reach f 5 5;colour c;colour k;colour l;"
            + "guild g a 1 c 1;guild h a 1 c 1;user u a 0 1;pebble c 1 1;pebble c 2 1;pebble c 3 1;pebble k 1 1;");
        for (int k = 0; k < 6; k++) {
            x.ring(k, 0, 1);
        }
        for (int k = 0; k < 7; k++) {
            x.see(k, 0, 0);
        }
        x.feed(0, 0, 0, 0, 0);
        x.end(8);
        int[] due = {5, 3, 2, 1, 4, 6, 7, 8};
        for (int what = 0; what < 8; what++) {
            Check.due("count(" + what + ")", due[what], x.count(what));
        }
        x.undo();
        Check.due("count(5) behind undo", 5, x.count(5));
    }

    @Says("NONE for another what.")
    static void promise37CountOfAnother(Bells x) {
        small(x);
        Check.due("count(8)", -1, x.count(8));
        for (int no : FAR) {
            Check.due("count(" + no + ")", -1, x.count(no));
        }
        Bells y = new Bells();
        Check.due("count(8) of a new object", -1, y.count(8));
        Check.due("count(-1) of a new object", -1, y.count(-1));
    }
}
