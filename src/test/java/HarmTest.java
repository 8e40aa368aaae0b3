/** Promises 18 to 21, 31 and 32: harmed, harm, blame, duty, dam, rain. */
public final class HarmTest {
    public static void main(String[] args) {
        harmed();
        hoursOfTheDay();
        someColour();
        blame();
        duty();
        dam();
        rain();
        Check.close();
    }

    /** REACH a halves what is in it each HOUR of DAY 0, and is empty behind any HOUR of another. */
    private static Bells made() {
        Bells x = new Bells();
        Check.river(x, "reach a 100 0;colour c;guild g a 5 c 10;guild h a 1 c 10;user u a 0 24 c 4;user v a 2 3 c 0;user w a 0 24;flow 0 50;");
        return x;
    }

    /** 20 put in: 10, 5, 3, 2, 1, 1 .. are left. */
    private static void harmed() {
        Bells x = made();
        Check.due("without BELLS", 0, x.harmed(0, -1));
        Check.due("without BELLS", 0, x.harm());
        x.ring(0, 0, 1);
        x.ring(0, 1, 1);
        Check.due("HOURS", 2, x.harmed(0, -1));
        Check.due("the first", 0, x.harmed(0, 0));
        Check.due("the second", 1, x.harmed(0, 1));
        Check.due("no third", -1, x.harmed(0, 2));
        Check.due("the other's", 1, x.harmed(1, -1));
        Check.due("the other's first", 2, x.harmed(1, 0));
        Check.due("who bears any", 0, x.harmed(2, -1));
        Check.due("harm", 3, x.harm());
        Check.due("k -2", -1, x.harmed(0, -2));
        Check.due("k the greatest", -1, x.harmed(0, Integer.MAX_VALUE));
        Check.due("no USER", -1, x.harmed(3, -1));
        Check.due("no USER", -1, x.harmed(-1, -1));
        x.undo();
        Check.due("5, 3: HOURS of u", 1, x.harmed(0, -1));
        Check.due("harm", 2, x.harm());
    }

    private static void hoursOfTheDay() {
        Bells x = new Bells();
        Check.river(x, "reach a 100 0;colour c;guild g a 1 c 1;user u a 6 8 c 0;user v a 23 24 c 0;user w a 0 1 c 0;user y a 0 24 c 1;"
            + "flow 0 0;flow 1 0;flow 2 0;flow 3 0;flow 4 0;flow 5 0;flow 6 0;");
        x.ring(7, 0, 1);
        Check.due("7 and then 6, 7 of six days", 13, x.harmed(0, -1));
        Check.due("the first", 7, x.harmed(0, 0));
        Check.due("the second", 30, x.harmed(0, 1));
        Check.due("the last", 151, x.harmed(0, 12));
        Check.due("HOUR 23 of each", 7, x.harmed(1, -1));
        Check.due("the last of them", 167, x.harmed(1, 6));
        Check.due("HOUR 0 of six", 6, x.harmed(2, -1));
        Check.due("as much as is borne", 0, x.harmed(3, -1));
        Check.due("harm", 26, x.harm());
    }

    private static void someColour() {
        Bells x = new Bells();
        Check.river(x, "reach a 100 0;reach b 100 0;colour c;colour d;guild g a 1 c 9 d 9;user u a 0 1 c 9 d 8;user v a 0 1 d 9;user w b 0 24 c 0;flow 0 0;");
        x.ring(0, 0, 1);
        Check.due("one COLOUR is above", 1, x.harmed(0, -1));
        Check.due("none is", 0, x.harmed(1, -1));
        Check.due("another REACH, when it comes there", 1, x.harmed(2, -1));
        Check.due("in the first HOUR of DAY 1", 24, x.harmed(2, 0));
    }

    private static void blame() {
        Bells x = made();
        Check.due("without BELLS", 0, x.blame(0, 0));
        x.ring(0, 0, 1);
        x.ring(0, 1, 1);
        Check.due("HOUR 1 alone by g", 1, x.blame(0, 0));
        Check.due("HOUR 1 alone by h", 1, x.blame(1, 0));
        Check.due("v is harmed by either", 0, x.blame(0, 1));
        Check.due("w is not harmed", 0, x.blame(0, 2));
        x.undo();
        x.ring(0, 0, 1);
        Check.due("all BELLS of g are taken away", 1, x.blame(0, 0));
        Check.due("h has none", 0, x.blame(1, 0));
        Check.due("the ORDER is as it was", 2, x.harm());
        Bells y = new Bells();
        Check.river(y, "reach a 100 0;colour c;guild g a 1 c 10;user u a 0 24 c 4;flow 0 0;flow 1 0;flow 2 0;flow 3 0;flow 4 0;"
            + "flow 5 0;flow 6 0;");
        y.ring(150, 0, 1);
        Check.due("each HOUR from then on", 18, y.harm());
        Check.due("nothing anywhere at first", 18, y.blame(0, 0));
        Check.due("no GUILD", -1, x.blame(2, 0));
        Check.due("no GUILD", -1, x.blame(-1, 0));
        Check.due("no USER", -1, x.blame(0, 3));
        Check.due("no USER", -1, x.blame(0, -1));
    }

    private static void duty() {
        Bells x = made();
        Check.due("all is left", 5, x.duty(0));
        x.ring(0, 0, 3);
        Check.due("two are left", 2, x.duty(0));
        x.ring(1, 0, 3);
        Check.due("an HOUR counts once", 1, x.duty(0));
        x.ring(100, 0, 24);
        Check.due("0 at least", 0, x.duty(0));
        Check.due("the other's", 1, x.duty(1));
        Check.due("no GUILD", -1, x.duty(2));
        Check.due("no GUILD", -1, x.duty(-1));
    }

    private static void dam() {
        Bells x = made();
        x.ring(0, 0, 1);
        x.ring(0, 1, 1);
        Check.due("as told", 3, x.dam(0, 100));
        Check.due("all flows", 0, x.dam(0, 50));
        Check.due("all flows of the least", 0, x.dam(0, 1));
        Check.due("15, 12, 9, .. in 200", 3, x.dam(0, 200));
        Check.due("the greatest", 0, x.dam(0, 9999));
        Check.due("10 000", -1, x.dam(0, 10000));
        Check.due("0", -1, x.dam(0, 0));
        Check.due("no REACH", -1, x.dam(1, 5));
        Check.due("no REACH", -1, x.dam(-1, 5));
        Check.due("nothing is changed", 100, x.reach(0, 0));
        Check.due("nothing is changed", 3, x.harm());
    }

    private static int weeks(int weeks, int seed, boolean ofThree) {
        int x = seed;
        int found = 0;
        for (int w = 0; w < weeks; w++) {
            for (int day = 0; day < 7; day++) {
                x = x * 1103515245 + 12345;
                int draw = (x >>> 8) % 5;
                found += day == 2 && (ofThree ? draw != 4 : draw == 0) ? 1 : 0;
            }
        }
        return found;
    }

    private static void rain() {
        Bells half = new Bells();
        Check.river(half, "reach a 100 0;colour c;guild g a 1 c 9;user u a 0 24 c 0;flow 2 199;");
        half.ring(48, 0, 1);
        Bells three = new Bells();
        Check.river(three, "reach a 9999 0;colour c;guild g a 1 c 9999;user u a 0 1 c 0;flow 2 3400;");
        three.ring(48, 0, 1);
        int[] seeds = {0, 1, -1, 2026, Integer.MAX_VALUE, Integer.MIN_VALUE};
        for (int seed : seeds) {
            for (int weeks = 1; weeks <= 20; weeks += 19) {
                Check.due("half of 199 is less than 100", weeks(weeks, seed, false), half.rain(weeks, seed));
                Check.due("three times 3400 is 9999", weeks(weeks, seed, true), three.rain(weeks, seed));
            }
        }
        Bells little = new Bells();
        Check.river(little, "reach a 100 0;colour c;guild g a 1 c 9;user u a 0 24 c 0;flow 2 30;");
        little.ring(48, 0, 1);
        Check.due("three times 30 is too little", 20, little.rain(20, 3));
        Check.due("the flow is as told", 199, half.flow(2));
        Check.due("nobody is harmed", 0, half.harm());
        Check.due("0 weeks", -1, half.rain(0, 1));
        Check.due("21 weeks", -1, half.rain(21, 1));
        Check.due("-1 weeks", -1, half.rain(-1, 1));
    }
}
