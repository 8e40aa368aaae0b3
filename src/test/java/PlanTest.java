/** Promises 23 to 27: days, dayOf, exchange, exchanges, late. */
public final class PlanTest {
    public static void main(String[] args) {
        days();
        daysOfMany();
        daysWrong();
        daysForMany();
        exchange();
        firstTwo();
        fifty();
        late();
        lateWithFlood();
        Check.close();
    }

    /** DAY 6 alone clears all; what is left of another DAY's work is there until then. */
    private static Bells made() {
        Bells x = new Bells();
        Check.river(x, "reach a 100 0;colour c;guild g a 2 c 100;guild h a 1 c 100;guild i a 24 c 1;user u a 0 24 c 0;"
            + "flow 0 50;flow 1 50;flow 2 50;flow 3 50;flow 4 50;flow 5 50;");
        return x;
    }

    private static void days() {
        Bells x = made();
        Check.due("ahead of any", -1, x.dayOf(0));
        Check.due("g from 22 on", 0, Check.days(x, 22, 0));
        Check.due("on DAY 6", 6, x.dayOf(0));
        Check.due("g from 23 on, no more than to HOUR 168", 1, Check.days(x, 23, 0));
        Check.due("on DAY 5", 5, x.dayOf(0));
        Check.due("i from 0 on", 0, Check.days(x, 0, 2));
        Check.due("on DAY 6", 6, x.dayOf(0));
        Check.due("i from 1 on: 23 HOURS of DAY 5", 23, Check.days(x, 1, 2));
        Check.due("on DAY 5", 5, x.dayOf(0));
        Check.due("dayOf(1)", -1, x.dayOf(1));
        Check.due("dayOf(-1)", -1, x.dayOf(-1));
        Check.due("no BELL more", 0, x.count(5));
        x.ring(0, 0, 1);
        Check.due("besides the ORDER: harmed until DAY 6 anyhow", 144, Check.days(x, 22, 0));
        Check.due("of like ones the first", 0, x.dayOf(0));
        Check.due("the ORDER is as it was", 144, x.harm());
    }

    private static void daysOfMany() {
        Bells x = made();
        x.harm();
        x.dam(0, 1);
        Check.due("h and g", 1, Check.days(x, 23, 1, 0));
        Check.due("h on DAY 5 already: of like ones the first", 5, x.dayOf(0));
        Check.due("g on DAY 5", 5, x.dayOf(1));
        Check.due("g and h", 1, Check.days(x, 23, 0, 1));
        Check.due("g on DAY 5", 5, x.dayOf(0));
        Check.due("h on DAY 5", 5, x.dayOf(1));
        Check.due("a call that is not as told", -2, Check.days(x, 23, 0, 0));
        Check.due("leaves them", 5, x.dayOf(1));
        Check.due("three", 0, Check.days(x, 0, 2, 1, 0));
        Check.due("all on DAY 6", 6, x.dayOf(0));
        Check.due("all on DAY 6", 6, x.dayOf(1));
        Check.due("all on DAY 6", 6, x.dayOf(2));
        Check.due("no fourth", -1, x.dayOf(3));
        Check.river(x, "");
        Check.due("a new RIVER leaves them", 6, x.dayOf(2));
    }

    private static void daysWrong() {
        Bells x = made();
        Check.due("none told", -2, Check.days(x, 0));
        Check.due("no such GUILD", -2, Check.days(x, 0, 3));
        Check.due("no such GUILD", -2, Check.days(x, 0, 0, 255));
        Check.due("one twice", -2, Check.days(x, 0, 1, 0, 1));
        Check.due("HOUR 24", -2, Check.days(x, 24, 0));
        Check.due("HOUR -1", -2, Check.days(x, -1, 0));
        Check.due("ahead of any", -1, x.dayOf(0));
        for (int k = 0; k < 38; k++) {
            x.ring(k, 2, 1);
        }
        Check.due("41 BELLS", -2, Check.days(x, 0, 0, 1, 2));
        Check.due("40 BELLS", 144, Check.days(x, 0, 0, 1));
        x.ring(0, 2, 1);
        x.ring(0, 2, 1);
        Check.due("41 BELLS", -2, Check.days(x, 0, 0));
        Check.river(x, "");
        Check.due("no GUILDS", -2, Check.days(x, 0, 0));
    }

    private static void daysForMany() {
        Bells x = new Bells();
        Check.river(x, "reach a 100 0;colour c;guild g a 1 c 40;guild h a 1 c 40;guild i a 1 c 40;guild j a 1 c 40;guild k a 1 c 1;"
            + "user u a 0 1 c 25;flow 0 50;flow 1 50;flow 2 50;flow 3 50;flow 4 50;flow 5 50;flow 6 50;");
        // Of a DAY's 40 one is left on all that come: 41 make 21 then, 80 make 40.
        Check.due("four", 0, Check.days(x, 0, 3, 0, 4, 1));
        int[] due = {0, 1, 0, 2};
        for (int i = 0; i < 4; i++) {
            Check.due("dayOf(" + i + "), in the tape's order", due[i], x.dayOf(i));
        }
        Check.due("five", -2, Check.days(x, 0, 0, 1, 2, 3, 4));
        Check.due("it leaves them", 2, x.dayOf(3));
        for (int day = 0; day < 6; day++) {
            x.ring(24 * day, 0, 1);
        }
        Check.due("DAY 0 to 5 are taken", 0, Check.days(x, 0, 1));
        Check.due("DAY 6 is not", 6, x.dayOf(0));
        Check.due("one must share a DAY", 1, Check.days(x, 0, 1, 2));
        Check.due("of like ones the first", 0, x.dayOf(0));
        Check.due("three on a DAY harm no more than two", 0, x.dayOf(1));
    }

    private static Bells strongAndWeak() {
        Bells x = new Bells();
        Check.river(x, "reach a 100 0;colour c;guild big a 1 c 100;guild sml a 1 c 4;user u a 0 12 c 5;"
            + "flow 0 50;flow 1 50;flow 2 50;flow 3 50;flow 4 50;flow 5 50;flow 6 50;");
        return x;
    }

    private static void exchange() {
        Bells x = strongAndWeak();
        Check.due("ahead of any", 0, x.exchanges());
        x.ring(0, 0, 1);
        x.ring(12, 1, 2);
        Check.due("50, 25, 13, 7 are more than 5", 4, x.harm());
        Check.due("exchange", 0, x.exchange());
        Check.due("exchanges", 1, x.exchanges());
        Check.due("harm", 0, x.harm());
        int[][] due = {{0, 1, 1}, {12, 0, 2}};
        for (int k = 0; k < 2; k++) {
            for (int what = 0; what < 3; what++) {
                Check.due("bell(" + k + ", " + what + ")", due[k][what], x.bell(k, what));
            }
        }
        Check.due("again", 0, x.exchange());
        Check.due("none more", 0, x.exchanges());
        Check.due("still two", 2, x.count(5));
        x.ring(24, 0, 1);
        int harm = x.harm();
        Check.due("somebody is harmed", true, harm > 0);
        x.ring(48, 1, 1);
        Check.due("no exchange helps", harm, x.exchange());
        Check.due("none is done", 0, x.exchanges());
    }

    /** BELL 0 of 'big' harms; an exchange with BELL 1 does not help, with 2 and with 3 does. */
    private static void firstTwo() {
        Bells x = strongAndWeak();
        x.ring(0, 0, 1);
        x.ring(24, 1, 1);
        x.ring(60, 1, 1);
        x.ring(36, 1, 1);
        Check.due("harm", 4, x.harm());
        Check.due("exchange", 0, x.exchange());
        Check.due("exchanges", 1, x.exchanges());
        Check.due("BELL 0", 1, x.bell(0, 1));
        Check.due("BELL 1", 1, x.bell(1, 1));
        Check.due("BELL 2", 0, x.bell(2, 1));
        Check.due("BELL 3", 1, x.bell(3, 1));
    }

    private static void fifty() {
        Bells x = new Bells();
        ringFifty(x);
        x.exchange();
        Check.due("50 at most", 50, x.exchanges());
        x.exchange();
        Check.due("there are more", true, x.exchanges() > 0);
    }

    static void ringFifty(Bells x) {
        Check.river(x, FIFTY_RIVER);
        for (int k = 0; k < FIFTY_BELLS.length; k += 2) {
            x.ring(FIFTY_BELLS[k], FIFTY_BELLS[k + 1], 1);
        }
    }

    /** What has settled of DAY 0 is washed up on DAY 2; each BELL is tried by hand. */
    private static void lateWithFlood() {
        for (int start = 1; start < 168; start++) {
            Bells x = new Bells();
            Check.river(x, "reach a 100 500;reach b 80 90;colour c;guild g a 1 c 100;user u a 0 24 c 10;user v b 0 9 c 12;"
                + "flow 0 0;flow 1 0;flow 2 10;flow 3 0;flow 4 5;flow 5 12;flow 6 1;flood 10;");
            x.ring(0, 0, 1);
            x.ring(start, 0, 1);
            int told = x.harm();
            int late = x.late(1);
            x.undo();
            int due = 0;
            for (int later = 1; later <= 24 && start + later < 168 && due == later - 1; later++) {
                x.ring(start + later, 0, 1);
                due = x.harm() <= told ? later : due;
                x.undo();
            }
            Check.due("late by a BELL of HOUR " + start, due, late);
        }
    }

    private static void late() {
        Bells x = strongAndWeak();
        x.ring(12, 0, 1);
        x.ring(143, 0, 1);
        x.ring(167, 1, 1);
        x.ring(0, 0, 24);
        Check.due("till HOUR 167", 0, x.late(2));
        x.undo();
        // From HOUR 21 on 7 would be left behind HOUR 24.
        Check.due("8 HOURS", 8, x.late(0));
        Check.due("BELL 1: 25, 13, 7 of DAY 6, with 50 they are more", 0, x.late(1));
        Check.due("no BELL", -1, x.late(3));
        Check.due("no BELL", -1, x.late(-1));
        Check.due("nothing is changed", 12, x.bell(0, 0));
        Check.due("nothing is changed", 3, x.harm());
        Bells y = strongAndWeak();
        y.ring(0, 1, 1);
        y.ring(150, 1, 3);
        y.ring(100, 1, 24);
        Check.due("24 at most", 24, y.late(0));
        Check.due("no more than to HOUR 168", 15, y.late(1));
        Check.due("24 at most", 24, y.late(2));
    }

    /** Found by search: HOUR and GUILD of forty BELLS with some sixty exchanges. */
    private static final String FIFTY_RIVER = "reach a 100 0;colour c;guild ga a 1 c 100;guild gb a 1 c 200;"
        + "guild gc a 1 c 300;guild gd a 1 c 400;guild ge a 1 c 500;guild gf a 1 c 600;user ua a 5 20 c 6;user ub a 16 24 c 3;"
        + "user uc a 14 23 c 2;user ud a 18 23 c 2;user ue a 10 21 c 5;user uf a 14 22 c 3;"
        + "flow 0 99;flow 1 99;flow 2 99;flow 3 99;flow 4 99;flow 5 99;flow 6 99;";
    private static final int[] FIFTY_BELLS = {120, 0, 82, 5, 134, 1, 90, 5, 70, 1, 160, 4, 162, 4, 24, 0, 138, 3, 60, 4,
        16, 3, 26, 0, 80, 1, 70, 1, 146, 1, 126, 5, 44, 2, 6, 0, 150, 0, 164, 4, 32, 1, 106, 5, 150, 0, 112, 4, 60, 2, 122, 0,
        144, 4, 126, 4, 130, 5, 166, 3, 12, 4, 92, 3, 82, 0, 16, 1, 132, 5, 128, 0, 114, 5, 158, 4, 116, 3, 40, 5};
}
