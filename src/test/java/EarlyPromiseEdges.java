/** Promises 1 to 13: a new object, the tape, the RIVER and the ORDER. */
final class EarlyPromiseEdges {
    /** "colour red;colour b;" */
    private static final int[] TWO_COLOURS = {0x636f6c6f, 0x75722072, 0x65643b63, 0x6f6c6f75, 0x7220623b};
    private static final int[] FAR = {Integer.MIN_VALUE, -2, -1, 1000, Integer.MAX_VALUE};

    private EarlyPromiseEdges() {
    }

    private static int feed(Bells x) {
        return x.feed(TWO_COLOURS[0], TWO_COLOURS[1], TWO_COLOURS[2], TWO_COLOURS[3], TWO_COLOURS[4]);
    }

    private static Bells small(Bells x) {
        return Look.small(x);
    }

    // ---- 512 calls

    @Says("An object is used for at most 512 calls after it has been made; what later calls answer is free.")
    static void whatItIsThe512thCallIsAnswered(Bells x) {
        small(x);
        Bells y = small(new Bells());
        while (x.calls() < 508) {
            int left = 508 - x.calls();
            if (left >= 4) {
                x.ring(50, 0, 3);
                x.harm();
                x.undo();
            }
            x.count(left % 8);
        }
        Check.due("calls", 508, x.calls());
        Check.due("harm", y.harm(), x.harm());
        Check.due("sum", y.sum(0, 1), x.sum(0, 1));
        Check.due("said", y.said(-1), x.said(-1));
        Check.due("exchange", y.exchange(), x.exchange());
        Check.due("calls", 512, x.calls());
    }

    @Says("An object is used for at most 512 calls")
    static void whatItIs512ChangesOfTheOrder(Bells x) {
        Check.river(x, "reach a 100 0;colour c;guild g a 2 c 100;");
        int calls = x.calls();
        for (int i = 0; i < (Bells.MOST_CALLS - calls) / 4; i++) {
            Check.due("ring", 0, x.ring(i % 168, 0, 1));
            Check.due("passed", 100, x.passed(i % 168, 0));
            Check.due("undo", 0, x.undo());
            Check.due("passed", 0, x.passed(i % 168, 0));
        }
    }

    // ---- 1: a new object

    @Says("An empty RIVER, no BELLS; an empty tape.")
    static void promise01NewObjectIsEmpty(Bells x) {
        for (int what = 0; what < 8; what++) {
            Check.due("count(" + what + ")", 0, x.count(what));
        }
        for (int day = 0; day < 7; day++) {
            Check.due("flow(" + day + ")", 100, x.flow(day));
        }
        Check.throwsNoSuch("reach(0, 0)", () -> x.reach(0, 0));
        Check.throwsNoSuch("guild(0, 0)", () -> x.guild(0, 0));
        Check.throwsNoSuch("user(0, 0)", () -> x.user(0, 0));
        Check.throwsNoSuch("bell(0, 0)", () -> x.bell(0, 0));
        Check.due("harm", 0, x.harm());
        Check.due("undo", -1, x.undo());
        Check.due("river of the empty tape", 0, x.river());
        Check.due("order of the empty tape", 0, x.order());
        Check.due("end(0)", true, x.end(0));
        Check.due("end(1)", false, x.end(1));
    }

    @Says("An empty RIVER, no BELLS")
    static void promise01NewObjectHasNothingToAskOf(Bells x) {
        Check.due("ring", -1, x.ring(0, 0, 1));
        Check.due("at", -1, x.at(0, 0, 0, 0));
        Check.due("passed", -1, x.passed(0, 0));
        Check.due("sum", -1, x.sum(0, 0));
        Check.due("fine", -1, x.fine(0, 0));
        Check.due("harmed", -1, x.harmed(0, -1));
        Check.due("blame", -1, x.blame(0, 0));
        Check.due("duty", -1, x.duty(0));
        Check.due("pulse", -2, x.pulse(0, 0, 1, 0));
        Check.due("days", -2, x.days(0));
        Check.due("dayOf", -1, x.dayOf(0));
        Check.due("exchange", 0, x.exchange());
        Check.due("exchanges", 0, x.exchanges());
        Check.due("late", -1, x.late(0));
        Check.due("see", -1, x.see(0, 0, 0));
        Check.due("night", 0, x.night());
        Check.due("led", -1, x.led(0));
        Check.due("dam", -1, x.dam(0, 1));
        Check.due("rain", 0, x.rain(20, 1));
        Check.due("said", -1, x.said(-1));
        Check.due("restore", false, x.restore(0));
        Check.due("fault", 0, x.fault());
    }

    // ---- 2 and 3: the tape

    @Says("Twenty bytes come behind the tape, of each number the highest first: how many it has;")
    static void promise02FeedTwentyBytesTheHighestFirst(Bells x) {
        Check.due("feed", 20, feed(x));
        Check.due("feed", 40, x.feed(0x3b3b3b3b, 0, 0, 0, -1));
        Check.due("end(20)", true, x.end(20));
        Check.due("river", 2, x.river());
        Check.due("feed", 20, x.feed(0x666c6f6f, 0x64203939, 0x39393b20, 0x666c6f77, 0x20362030));
        Check.due("feed", 40, x.feed(0x3b000000, 0, 0, 0, 0));
        Check.due("end(21)", true, x.end(21));
        Check.due("river over two feeds", 2, x.river());
        Check.due("flow(6)", 0, x.flow(6));
        x.feed(0x636f6c6f, 0x757220ff, 0, 0, 0);
        x.end(8);
        Check.due("river: byte 255 is no TOKEN", -8, x.river());
        x.feed(Integer.MIN_VALUE, Integer.MAX_VALUE, -1, 0, 1);
        Check.due("count(7)", 20, x.count(7));
        Check.due("river: byte 128 is no TOKEN", -1, x.river());
    }

    @Says("NONE, and none come, if it would have more than 940.")
    static void promise02FeedNoMoreThan940(Bells x) {
        for (int i = 1; i <= 47; i++) {
            Check.due("feed " + i, 20 * i, x.feed(0x20202020, 0x20202020, 0x20202020, 0x20202020, 0x20202020));
        }
        Check.due("feed 48", -1, feed(x));
        Check.due("bytes", 940, x.count(7));
        Check.due("end(921)", true, x.end(921));
        Check.due("feed to 941", -1, feed(x));
        Check.due("bytes", 921, x.count(7));
        Check.due("end(920)", true, x.end(920));
        Check.due("feed to 940", 940, feed(x));
        Check.due("end(900)", true, x.end(900));
        Check.due("river: none of the refused has come", 0, x.river());
        Check.due("feed behind river", 20, feed(x));
    }

    @Says("The tape has its first n bytes alone: true;")
    static void promise03EndTheFirstBytesAlone(Bells x) {
        feed(x);
        Check.due("end(20): all", true, x.end(20));
        Check.due("bytes", 20, x.count(7));
        Check.due("end(11)", true, x.end(11));
        Check.due("bytes", 11, x.count(7));
        Check.due("feed behind them", 31, feed(x));
        Check.due("end(22)", true, x.end(22));
        Check.due("river: 'red' again", -19, x.river());
        Check.due("fault", 3, x.fault());
        feed(x);
        Check.due("end(0)", true, x.end(0));
        Check.due("bytes", 0, x.count(7));
        Check.due("end(0) of none", true, x.end(0));
        Check.due("river", 0, x.river());
    }

    @Says("false, if it has not so many, or n is below 0.")
    static void promise03EndBeyondTheTape(Bells x) {
        Check.due("end(1) of none", false, x.end(1));
        Check.due("end(-1) of none", false, x.end(-1));
        feed(x);
        Check.due("end(21)", false, x.end(21));
        Check.due("end(-1)", false, x.end(-1));
        for (int n : FAR) {
            Check.due("end(" + n + ")", false, x.end(n));
        }
        Check.due("bytes stay", 20, x.count(7));
        Check.due("river", 2, x.river());
        Check.due("end(1) behind river", false, x.end(1));
    }

    // ---- 4 and 5: river, fault

    @Says("The tape (empty then, here and below) is the RIVER now: how many LINES;")
    static void promise04RiverIsTheTape(Bells x) {
        Check.due("river", 2, Check.river(x, "colour c;flood 5;"));
        Check.due("bytes", 0, x.count(7));
        Check.due("COLOURS", 1, x.count(1));
        Check.due("river of the empty tape", 0, x.river());
        Check.due("COLOURS", 0, x.count(1));
        Check.due("river of all sorts", 7,
            Check.river(x, "reach a 5 5;colour c;guild g a 1 c 1;user u a 0 1;flow 0 0;flood 1;pebble c 1 1;"));
    }

    @Says("(empty then, here and below)")
    static void promise04TapeIsEmptyBehindEachText(Bells x) {
        small(x);
        String[] texts = {"colour c;", "bell 0 0 g 1;", "works g", "x"};
        for (String text : texts) {
            Check.tape(x, text);
            x.order();
            Check.due("bytes behind order of '" + text + "'", 0, x.count(7));
            Check.tape(x, text);
            x.sentence();
            Check.due("bytes behind sentence of '" + text + "'", 0, x.count(7));
            Check.tape(x, text);
            x.days(0);
            Check.due("bytes behind days of '" + text + "'", 0, x.count(7));
            Check.tape(x, text);
            x.days(24);
            Check.due("bytes behind days(24) of '" + text + "'", 0, x.count(7));
            Check.tape(x, text);
            x.river();
            Check.due("bytes behind river of '" + text + "'", 0, x.count(7));
        }
    }

    @Says("-1 less the place of a FAULT: it stays.")
    static void promise04RiverStaysBehindAFault(Bells x) {
        small(x);
        String before = Look.at(x);
        String lines = "reach z 7 7;colour y;guild w z 1 y 5;user v z 0 1 y 5;flow 0 8;flood 7;pebble y 5 5;";
        Check.riverFault(x, lines + "x", 1, lines.length());
        Check.same("all but the fault", before, Look.at(x).replace("fault 1", "fault 0"));
        Check.riverFault(x, "#", 1, 0);
        Check.due("the names stay", 1, Check.order(x, "bell 0 0 h 1;"));
        Check.due("the other names have not come", -10, Check.order(x, "bell 0 0 w 1;"));
        Check.due("its places go on", -1 - 900, Check.river(new Bells(), Check.padded("", 901, "")));
    }

    @Says("The kind of the FAULT of the latest river(), order() or sentence(); 0 without one and ahead of any.")
    static void promise05FaultOfTheLatestText(Bells x) {
        Check.due("ahead of any", 0, x.fault());
        Check.river(x, "x");
        Check.due("river", 1, x.fault());
        Check.river(x, "flood 0;");
        Check.due("river", 2, x.fault());
        Check.river(x, "flood 1;flood 1;");
        Check.due("river", 3, x.fault());
        Check.river(x, "colour a;colour b;colour c;colour d;colour e;");
        Check.due("river", 4, x.fault());
        small(x);
        Check.due("without one", 0, x.fault());
        Check.order(x, "bell 9 0 g 1;");
        Check.due("order", 2, x.fault());
        Check.sentence(x, "works q");
        Check.due("sentence", 3, x.fault());
        Check.order(x, "");
        Check.due("order without one", 0, x.fault());
        Check.sentence(x, "(".repeat(9) + "day=1");
        Check.due("sentence", 4, x.fault());
        Check.sentence(x, "day=1");
        Check.due("sentence without one", 0, x.fault());
    }

    @Says("of the latest river(), order() or sentence()")
    static void promise05FaultOfNoOtherCall(Bells x) {
        small(x);
        Check.order(x, "bell 9 0 g 1;");
        x.image(0);
        Check.days(x, 0, 9);
        Check.days(x, 0, 0);
        x.ring(-1, 0, 0);
        x.ring(0, 0, 1);
        x.see(-1, 0, 0);
        x.exchange();
        x.night();
        x.restore(0);
        x.rain(0, 0);
        x.end(-1);
        Check.throwsNoSuch("reach", () -> x.reach(9, 0));
        Check.due("the order's", 2, x.fault());
        Check.due("asked again", 2, x.fault());
    }

    // ---- 6 to 9: what was told

    @Says("Of REACH r: 0 VOL, 1 SETTLE.")
    static void promise06ReachVolAndSettle(Bells x) {
        small(x);
        Check.due("reach(0, 0)", 100, x.reach(0, 0));
        Check.due("reach(0, 1)", 10, x.reach(0, 1));
        Check.due("reach(1, 0)", 50, x.reach(1, 0));
        Check.due("reach(1, 1)", 0, x.reach(1, 1));
    }

    @Says("NoSuchElementException: no such ones.")
    static void promise06ReachNoSuchOnes(Bells x) {
        Check.throwsNoSuch("reach of an empty RIVER", () -> x.reach(0, 0));
        small(x);
        Check.throwsNoSuch("reach(2, 0)", () -> x.reach(2, 0));
        Check.throwsNoSuch("reach(0, 2)", () -> x.reach(0, 2));
        for (int no : FAR) {
            Check.throwsNoSuch("reach(" + no + ", 0)", () -> x.reach(no, 0));
            Check.throwsNoSuch("reach(0, " + no + ")", () -> x.reach(0, no));
            Check.throwsNoSuch("reach(" + no + ", " + no + ")", () -> x.reach(no, no));
        }
    }

    @Says("Of GUILD g: 0 REACH, 1 HOURS told, 2 and more: N of COLOUR what - 2.")
    static void promise07GuildReachHoursAndColours(Bells x) {
        small(x);
        int[][] due = {{0, 5, 90, 9}, {1, 2, 0, 8}};
        for (int g = 0; g < 2; g++) {
            for (int what = 0; what < 4; what++) {
                Check.due("guild(" + g + ", " + what + ")", due[g][what], x.guild(g, what));
            }
        }
    }

    @Says("N of COLOUR what - 2")
    static void promise07GuildPutsNothingOfAnOlderRiver(Bells x) {
        Check.river(x, "reach a 5 5;colour c;colour d;guild g a 1 c 9 d 8;guild h a 1 c 7 d 6;");
        Check.river(x, "reach a 5 5;colour c;colour d;guild g a 1 d 5;guild h a 1 c 4;");
        int[][] due = {{0, 5}, {4, 0}};
        for (int g = 0; g < 2; g++) {
            for (int c = 0; c < 2; c++) {
                Check.due("guild(" + g + ", " + (2 + c) + ")", due[g][c], x.guild(g, 2 + c));
            }
        }
    }

    @Says("NoSuchElementException: no such ones.")
    static void promise07GuildNoSuchOnes(Bells x) {
        Check.throwsNoSuch("guild of an empty RIVER", () -> x.guild(0, 0));
        small(x);
        Check.throwsNoSuch("guild(2, 0)", () -> x.guild(2, 0));
        Check.throwsNoSuch("guild(0, 4): a COLOUR not told", () -> x.guild(0, 4));
        Check.throwsNoSuch("guild(1, 4): a COLOUR not told", () -> x.guild(1, 4));
        for (int no : FAR) {
            Check.throwsNoSuch("guild(" + no + ", 0)", () -> x.guild(no, 0));
            Check.throwsNoSuch("guild(0, " + no + ")", () -> x.guild(0, no));
        }
        Check.river(x, "reach a 5 5;colour c;guild g a 1 c 1;colour d;");
        Check.due("a COLOUR told behind the GUILD", 0, x.guild(0, 3));
        Check.throwsNoSuch("guild(0, 4)", () -> x.guild(0, 4));
    }

    @Says("Of USER u: 0 REACH, 1 FROM, 2 TILL, 3 and more: what is borne of COLOUR what - 3 (NONE: any).")
    static void promise08UserReachHoursAndColours(Bells x) {
        small(x);
        int[][] due = {{0, 0, 24, 20, -1}, {1, 6, 20, -1, 5}};
        for (int u = 0; u < 2; u++) {
            for (int what = 0; what < 5; what++) {
                Check.due("user(" + u + ", " + what + ")", due[u][what], x.user(u, what));
            }
        }
    }

    @Says("(NONE: any)")
    static void promise08UserBearsNothingOfAnOlderRiver(Bells x) {
        Check.river(x, "reach a 5 5;colour c;colour d;user u a 0 1 c 9 d 8;user v a 0 1 c 7 d 0;");
        Check.due("0 is told", 0, x.user(1, 4));
        Check.river(x, "reach a 5 5;colour c;colour d;user u a 0 1 d 5;user v a 0 1;");
        int[][] due = {{-1, 5}, {-1, -1}};
        for (int u = 0; u < 2; u++) {
            for (int c = 0; c < 2; c++) {
                Check.due("user(" + u + ", " + (3 + c) + ")", due[u][c], x.user(u, 3 + c));
            }
        }
    }

    @Says("NoSuchElementException: no such ones.")
    static void promise08UserNoSuchOnes(Bells x) {
        Check.throwsNoSuch("user of an empty RIVER", () -> x.user(0, 0));
        small(x);
        Check.throwsNoSuch("user(2, 0)", () -> x.user(2, 0));
        Check.throwsNoSuch("user(0, 5): a COLOUR not told", () -> x.user(0, 5));
        for (int no : FAR) {
            Check.throwsNoSuch("user(" + no + ", 0)", () -> x.user(no, 0));
            Check.throwsNoSuch("user(0, " + no + ")", () -> x.user(0, no));
        }
        Check.river(x, "reach a 5 5;user u a 0 1;");
        Check.due("user(0, 2)", 1, x.user(0, 2));
        Check.throwsNoSuch("user(0, 3) without COLOURS", () -> x.user(0, 3));
    }

    @Says({"The flow of a DAY.", "NoSuchElementException: no such one."})
    static void promise09FlowOfDays0To6(Bells x) {
        Check.due("flow of an empty RIVER", 100, x.flow(0));
        Check.river(x, "flow 0 0;flow 6 9999;flow 3 1;");
        int[] due = {0, 100, 100, 1, 100, 100, 9999};
        for (int day = 0; day < 7; day++) {
            Check.due("flow(" + day + ")", due[day], x.flow(day));
        }
        Check.throwsNoSuch("flow(7)", () -> x.flow(7));
        for (int no : FAR) {
            Check.throwsNoSuch("flow(" + no + ")", () -> x.flow(no));
        }
        Check.river(x, "");
        Check.due("without again", 100, x.flow(6));
    }

    // ---- 10 to 13: BELLS

    @Says("The tape is the ORDER now: how many BELLS;")
    static void promise10OrderIsTheTape(Bells x) {
        small(x);
        Check.due("order", 3, Check.order(x, "bell 0 1 g 2;bell 6 23 h 1;bell 2 5 g 7;"));
        Check.due("BELLS", 3, x.count(5));
        Check.due("HOUR of the last", 53, x.bell(2, 0));
        Check.due("ring behind it", 3, x.ring(9, 1, 1));
        Check.due("order", 1, Check.order(x, "bell 1 1 h 1;"));
        Check.due("BELLS", 1, x.count(5));
        Check.due("sights stay", 2, x.count(6));
        Check.due("the SENTENCE stays", true, x.said(-1) >= 0);
        Check.due("order of the empty tape", 0, x.order());
        Check.due("BELLS", 0, x.count(5));
        Check.due("undo", -1, x.undo());
    }

    @Says("The tape is the ORDER now")
    static void promise10OrderIsAskedOfAtOnce(Bells x) {
        Check.river(x, "reach a 100 0;colour c;guild g a 1 c 7;user u a 0 24 c 0;flow 0 0;");
        Check.due("harm", 0, x.harm());
        Check.order(x, "bell 0 23 g 1;");
        Check.due("harm", 1, x.harm());
        Check.due("passed(24, 0)", 7, x.passed(24, 0));
        Check.order(x, "bell 0 22 g 1;");
        Check.due("harm", 2, x.harm());
        Check.order(x, "");
        Check.due("harm", 0, x.harm());
    }

    @Says("-1 less the place of a FAULT: it stays.")
    static void promise10OrderStaysBehindAFault(Bells x) {
        small(x);
        String before = Look.at(x);
        Check.orderFault(x, "bell 1 1 h 1;bell 2 2 h 2;bell 3 3 h 3;bell 4 4 q 4;", 3, 48);
        Check.same("all but the fault", before, Look.at(x).replace("fault 3", "fault 0"));
        Check.orderFault(x, "#", 1, 0);
        Check.due("undo of the last as it was", 1, x.undo());
    }

    @Says("A BELL more, from an HOUR of the week on: its number;")
    static void promise11RingABellMore(Bells x) {
        small(x);
        Check.due("ring", 2, x.ring(0, 0, 24));
        Check.due("ring", 3, x.ring(144, 1, 24));
        Check.due("ring", 4, x.ring(167, 1, 1));
        int[][] due = {{0, 0, 24}, {144, 1, 24}, {167, 1, 1}};
        for (int k = 0; k < 3; k++) {
            for (int what = 0; what < 3; what++) {
                Check.due("bell(" + (2 + k) + ", " + what + ")", due[k][what], x.bell(2 + k, what));
            }
        }
        Check.due("put in: g 24 HOURS", 24 * 90, x.sum(0, 0));
    }

    @Says("NONE: there are 40, or not as told.")
    static void promise11RingRefused(Bells x) {
        small(x);
        String before = Look.at(x);
        int[][] wrong = {{-1, 0, 1}, {168, 0, 1}, {0, -1, 1}, {0, 2, 1}, {0, 0, 0}, {0, 0, -1}, {0, 0, 25}, {145, 0, 24}, {167, 0, 2},
            {Integer.MAX_VALUE, 0, 1}, {Integer.MIN_VALUE, 0, 1}, {0, Integer.MAX_VALUE, 1}, {0, Integer.MIN_VALUE, 1},
            {0, 0, Integer.MAX_VALUE}, {0, 0, Integer.MIN_VALUE}, {167, 1, Integer.MAX_VALUE}};
        for (int[] one : wrong) {
            Check.due("ring(" + one[0] + ", " + one[1] + ", " + one[2] + ")", -1, x.ring(one[0], one[1], one[2]));
        }
        Check.same("all", before, Look.at(x));
        for (int k = 2; k < 40; k++) {
            Check.due("ring", k, x.ring(k, 1, 1));
        }
        Check.due("a 41st", -1, x.ring(0, 0, 1));
        Check.due("BELLS", 40, x.count(5));
        Check.throwsNoSuch("bell(40, 0)", () -> x.bell(40, 0));
    }

    @Says("The latest BELL is undone: how many are left;")
    static void promise12UndoTheLatest(Bells x) {
        small(x);
        Check.order(x, "bell 0 0 g 1;bell 0 5 h 1;");
        x.ring(9, 0, 1);
        Check.due("undo", 2, x.undo());
        Check.throwsNoSuch("bell(2, 0)", () -> x.bell(2, 0));
        Check.due("the one of the text is left", 5, x.bell(1, 0));
        Check.due("put in", 90, x.sum(0, 0));
        Check.due("undo", 1, x.undo());
        Check.due("put in of d", 9, x.sum(1, 0));
        Check.due("undo", 0, x.undo());
        Check.due("put in", 0, x.sum(0, 0));
        Check.due("ring", 0, x.ring(3, 1, 1));
    }

    @Says("NONE: there is none.")
    static void promise12UndoOfNone(Bells x) {
        Check.due("undo of a new object", -1, x.undo());
        small(x);
        x.undo();
        x.undo();
        String before = Look.at(x);
        Check.due("undo", -1, x.undo());
        Check.due("undo", -1, x.undo());
        Check.same("all", before, Look.at(x));
    }

    @Says("Of BELL k: 0 HOUR, 1 GUILD, 2 HOURS.")
    static void promise13BellHourGuildHours(Bells x) {
        small(x);
        int[][] due = {{0, 0, 2}, {30, 1, 3}};
        for (int k = 0; k < 2; k++) {
            for (int what = 0; what < 3; what++) {
                Check.due("bell(" + k + ", " + what + ")", due[k][what], x.bell(k, what));
            }
        }
    }

    @Says("NoSuchElementException: no such ones.")
    static void promise13BellNoSuchOnes(Bells x) {
        small(x);
        Check.throwsNoSuch("bell(2, 0)", () -> x.bell(2, 0));
        Check.throwsNoSuch("bell(0, 3)", () -> x.bell(0, 3));
        for (int no : FAR) {
            Check.throwsNoSuch("bell(" + no + ", 0)", () -> x.bell(no, 0));
            Check.throwsNoSuch("bell(0, " + no + ")", () -> x.bell(0, no));
        }
        x.undo();
        Check.throwsNoSuch("bell(1, 0), undone", () -> x.bell(1, 0));
        x.undo();
        Check.throwsNoSuch("bell(0, 0), undone", () -> x.bell(0, 0));
    }
}
