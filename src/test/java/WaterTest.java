/** Promises 14 to 17 and 22: at, passed, sum, fine, pulse. */
public final class WaterTest {
    public static void main(String[] args) {
        onward();
        floods();
        floodWithout();
        sums();
        fines();
        wrongAsked();
        pulses();
        tenReaches();
        greatest();
        withoutReach();
        Check.close();
    }

    private static void at(Bells x, int hour, int r, int water, int bed) {
        Check.due("water of REACH " + r + " behind HOUR " + hour, water, x.at(hour, r, 0, 0));
        Check.due("bed of REACH " + r + " behind HOUR " + hour, bed, x.at(hour, r, 0, 1));
    }

    /** What goes on goes one REACH an HOUR, and settles where it has come to. */
    private static void onward() {
        Bells x = new Bells();
        Check.river(x, "reach up 100 0;reach mid 200 100;reach low 100 0;colour c;guild g up 2 c 1000;");
        x.ring(0, 0, 2);
        at(x, 0, 0, 0, 0);
        at(x, 0, 1, 900, 100);
        at(x, 0, 2, 0, 0);
        at(x, 1, 1, 1305, 245);
        at(x, 1, 2, 450, 0);
        Check.due("passed(1, 0)", 0, x.passed(1, 0));
        Check.due("passed(2, 0)", 450, x.passed(2, 0));
        Check.due("SHADE of 1305 in 200", 652, x.at(1, 1, 0, 2));
        Check.due("nothing anywhere before", 0, x.at(167, 0, 0, 0));
    }

    private static void floods() {
        Bells x = new Bells();
        Check.river(x, "reach a 100 500;colour c;guild g a 1 c 100;flow 0 0;flow 1 10;flood 10;");
        x.ring(0, 0, 1);
        at(x, 0, 0, 50, 50);
        at(x, 7, 0, 1, 99);
        at(x, 23, 0, 1, 99);
        at(x, 24, 0, 23, 72);
        Check.due("passed(23, 0)", 0, x.passed(23, 0));
        Check.due("passed(24, 0)", 5, x.passed(24, 0));
        Check.due("SHADE", 23, x.at(24, 0, 0, 2));
        Check.river(x, "reach a 100 500;colour c;guild g a 1 c 100;flow 0 0;flow 1 10;flood 11;");
        x.ring(0, 0, 1);
        at(x, 24, 0, 1, 99);
    }

    private static void floodWithout() {
        Bells x = new Bells();
        Check.river(x, "reach a 100 500;colour c;guild g a 1 c 100;flow 0 0;flow 1 9999;");
        x.ring(0, 0, 1);
        Check.due("9999 floods", 50, x.passed(24, 0));
        Check.river(x, "reach a 100 500;colour c;guild g a 1 c 100;flow 0 0;flow 1 9998;");
        x.ring(0, 0, 1);
        Check.due("9998 does not", 1, x.passed(24, 0));
    }

    private static void sums() {
        Bells x = new Bells();
        Check.river(x, "reach a 100 500;reach b 100 0;colour c;colour d;guild g a 1 c 100 d 3;guild h b 1 c 7;flow 0 0;flow 1 10;flood 10;");
        x.ring(0, 0, 2);
        x.ring(1, 0, 2);
        x.ring(3, 1, 1);
        Check.due("put in: each HOUR once", 307, x.sum(0, 0));
        Check.due("put in of the other", 9, x.sum(1, 0));
        for (int c = 0; c < 2; c++) {
            int passed = 0;
            for (int h = 0; h < 168; h++) {
                passed += x.passed(h, c);
            }
            Check.due("all that PASSED", passed, x.sum(c, 1));
            Check.due("in the water", x.at(167, 0, c, 0) + x.at(167, 1, c, 0), x.sum(c, 2));
            Check.due("on beds", x.at(167, 0, c, 1) + x.at(167, 1, c, 1), x.sum(c, 3));
            Check.due("nothing is lost", x.sum(c, 0), x.sum(c, 1) + x.sum(c, 2) + x.sum(c, 3));
        }
        Check.due("sum(0, 4)", -1, x.sum(0, 4));
        Check.due("sum(0, -1)", -1, x.sum(0, -1));
        Check.due("sum(2, 0)", -1, x.sum(2, 0));
        Check.due("sum(-1, 0)", -1, x.sum(-1, 0));
    }

    private static void fines() {
        Bells x = new Bells();
        Check.river(x, "reach a 100 0;colour c;colour d;guild g a 1 c 50 d 49;guild h a 1 c 9;flow 0 0;"
            + "pebble c 50 9;pebble c 10 3;pebble c 60 0;pebble d 49 100;pebble d 50 999;");
        Check.due("nothing there", 0, x.fine(0, 0));
        x.ring(1, 1, 2);
        x.ring(4, 0, 1);
        Check.due("SHADE 9: none", 0, x.fine(1, 0));
        Check.due("SHADE 18", 3, x.fine(2, 0));
        Check.due("SHADE 68 and 49", 100, x.fine(4, 0));
        x.undo();
        x.undo();
        x.ring(4, 0, 1);
        Check.due("SHADE 50 and 49", 109, x.fine(4, 0));
        Check.due("another day: gone", 0, x.fine(24, 0));
        Check.due("fine(167, 0)", 0, x.fine(167, 0));
        Check.due("fine(168, 0)", -1, x.fine(168, 0));
        Check.due("fine(-1, 0)", -1, x.fine(-1, 0));
        Check.due("fine(0, 1)", -1, x.fine(0, 1));
        Check.due("fine(0, -1)", -1, x.fine(0, -1));
    }

    private static void wrongAsked() {
        Bells x = new Bells();
        Check.river(x, "reach a 100 0;colour c;guild g a 1 c 50;");
        Check.due("at(0, 0, 0, 0)", 0, x.at(0, 0, 0, 0));
        Check.due("at(167, 0, 0, 2)", 0, x.at(167, 0, 0, 2));
        Check.due("at(168, ..)", -1, x.at(168, 0, 0, 0));
        Check.due("at(-1, ..)", -1, x.at(-1, 0, 0, 0));
        Check.due("at(0, 1, ..)", -1, x.at(0, 1, 0, 0));
        Check.due("at(0, -1, ..)", -1, x.at(0, -1, 0, 0));
        Check.due("at(0, 0, 1, ..)", -1, x.at(0, 0, 1, 0));
        Check.due("at(0, 0, -1, ..)", -1, x.at(0, 0, -1, 0));
        Check.due("at(0, 0, 0, 3)", -1, x.at(0, 0, 0, 3));
        Check.due("at(0, 0, 0, -1)", -1, x.at(0, 0, 0, -1));
        Check.due("passed(167, 0)", 0, x.passed(167, 0));
        Check.due("passed(168, 0)", -1, x.passed(168, 0));
        Check.due("passed(-1, 0)", -1, x.passed(-1, 0));
        Check.due("passed(0, 1)", -1, x.passed(0, 1));
        Check.due("passed(0, -1)", -1, x.passed(0, -1));
    }

    private static void pulses() {
        Bells x = new Bells();
        Check.river(x, "reach a 100 0;reach b 100 0;colour c;guild g b 1 c 50;flow 0 50;flow 1 0;flow 2 0;flow 3 0;flow 4 0;flow 5 0;flow 6 0;");
        x.ring(0, 0, 24);
        Check.due("b: the first HOUR", 0, x.pulse(1, 0, 100, 0));
        Check.due("b: the HOUR with the most", 0, x.pulse(1, 0, 100, 1));
        Check.due("b: 50, 25, 12, 6, 3, 2, 1", 99, x.pulse(1, 0, 100, 2));
        Check.due("a: the first HOUR", 1, x.pulse(0, 0, 100, 0));
        Check.due("a: 25 and 24", 1, x.pulse(0, 0, 100, 1));
        Check.due("one stays: never", -1, x.pulse(1, 0, 1, 0));
        Check.due("one stays: none with the most", -1, x.pulse(1, 0, 1, 1));
        Check.due("one stays: nothing", 0, x.pulse(1, 0, 1, 2));
        Check.due("the ORDER is as it was", 1200, x.sum(0, 0));
        Check.due("much is left", true, x.sum(0, 2) > 10);
        Bells y = new Bells();
        Check.river(y, "reach a 100 0;reach b 100 0;colour c;flow 0 50;flow 1 0;flow 2 0;flow 3 0;flow 4 0;flow 5 0;flow 6 0;");
        Check.due("nothing else is there", y.pulse(0, 0, 100, 2), x.pulse(0, 0, 100, 2));
        x.undo();
        x.ring(0, 0, 1);
        Check.due("PASSED from HOUR 0 on: 25, 12, 6, 3, 2, 1", 49, x.sum(0, 1));
        Check.due("now", 49, x.pulse(1, 0, 50, 2));
        Check.due("n 9999", 0, x.pulse(1, 0, 9999, 0));
        Check.due("n 10000", -2, x.pulse(1, 0, 10000, 0));
        Check.due("n 0", -2, x.pulse(1, 0, 0, 0));
        Check.due("no REACH", -2, x.pulse(2, 0, 5, 0));
        Check.due("no REACH", -2, x.pulse(-1, 0, 5, 0));
        Check.due("no COLOUR", -2, x.pulse(0, 1, 5, 0));
        Check.due("no COLOUR", -2, x.pulse(0, -1, 5, 0));
        Check.due("what 3", -2, x.pulse(0, 0, 5, 3));
        Check.due("what -1", -2, x.pulse(0, 0, 5, -1));
        Check.river(x, "reach a 100 0;reach b 100 0;reach d 100 0;colour c;flow 0 0;flow 1 60;flow 2 100;");
        Check.due("the first HOUR", 24, x.pulse(2, 0, 100, 0));
        Check.due("the first HOUR from the spring", 26, x.pulse(0, 0, 100, 0));
        Check.due("the HOUR with the most: 21, 25, 21", 27, x.pulse(0, 0, 100, 1));
    }

    /** Each COLOUR goes one REACH an HOUR, all of it. */
    private static void tenReaches() {
        Bells x = new Bells();
        StringBuilder river = new StringBuilder("colour ca;colour cb;colour cc;colour cd;");
        for (char r = 'a'; r < 'k'; r++) {
            river.append("reach ").append(r).append(" 100 0;");
        }
        Check.river(x, river + "guild ga a 1 ca 100 cb 101 cc 102 cd 103;");
        x.ring(20, 0, 1);
        x.ring(158, 0, 1);
        for (int c = 0; c < 4; c++) {
            for (int r = 1; r < 10; r++) {
                Check.due("REACH " + r, 100 + c, x.at(19 + r, r, c, 0));
                Check.due("REACH " + r + " an HOUR later", 0, x.at(20 + r, r, c, 0));
            }
            Check.due("passed", 100 + c, x.passed(29, c));
            Check.due("passed in the last HOUR", 100 + c, x.passed(167, c));
            Check.due("nothing is left", 0, x.sum(c, 2));
            Check.due("to the bridge", 9, x.pulse(0, c, 5, 0));
            Check.due("from the last REACH", 0, x.pulse(9, c, 5, 0));
        }
    }

    /** Products beyond an int. */
    private static void greatest() {
        Bells x = new Bells();
        StringBuilder river = new StringBuilder("reach a 9999 500;reach b 1 0;colour c;flow 6 5000;flood 5000;");
        for (char g = 'g'; g < 'g' + 6; g++) {
            river.append("guild ").append(g).append(" a 24 c 9999;");
        }
        for (int day = 0; day < 6; day++) {
            river.append("flow ").append(day).append(" 0;");
        }
        Check.river(x, river.toString());
        for (int day = 0; day < 6; day++) {
            for (int g = 0; g < 6; g++) {
                x.ring(24 * day, g, 24);
            }
        }
        int all = 6 * 9999 * 144;
        Check.due("put in", all, x.sum(0, 0));
        int water = x.at(143, 0, 0, 0);
        int bed = x.at(143, 0, 0, 1);
        Check.due("nothing is gone", all, water + bed);
        long then = water + bed / 2;
        long gone = then * 5000 / 9999;
        Check.due("into the next one", gone, x.at(144, 1, 0, 0));
        Check.due("SHADE in one of water", gone * 100, x.at(144, 1, 0, 2));
        Check.due("half of the rest stays in the water", then - gone - (then - gone) / 2, x.at(144, 0, 0, 0));
    }

    /** A COLOUR without a REACH, told behind a RIVER by which something PASSED in the last HOUR that was worked out. */
    private static void withoutReach() {
        Bells x = behindAnother();
        nothingPasses(x);
        x = behindAnother();
        x.image(1);
        x.restore(0);
        Check.due("PASSED as kept", 20, x.passed(167, 1));
        x.restore(1);
        nothingPasses(x);
        x = behindAnother();
        x.image(1);
        x.restore(0);
        Check.due("a PULSE", 99, x.pulse(0, 0, 99, 2));
        x.restore(1);
        nothingPasses(x);
    }

    private static Bells behindAnother() {
        Bells x = new Bells();
        Check.river(x, "reach r 100 0;colour c;colour d;guild g r 1 c 10 d 20;");
        x.ring(167, 0, 1);
        Check.due("PASSED in the last HOUR", 10, x.passed(167, 0));
        x.image(0);
        Check.due("river", 2, Check.river(x, "colour c;colour d;"));
        return x;
    }

    private static void nothingPasses(Bells x) {
        for (int c = 0; c < 2; c++) {
            for (int h = 0; h < 168; h++) {
                Check.due("passed(" + h + ", " + c + ") without a REACH", 0, x.passed(h, c));
            }
            for (int what = 0; what < 4; what++) {
                Check.due("sum(" + c + ", " + what + ") without a REACH", 0, x.sum(c, what));
            }
        }
        Check.due("another COLOUR", -1, x.passed(0, 2));
        Check.due("at without a REACH", -1, x.at(0, 0, 0, 0));
        Check.due("fine without a REACH", -1, x.fine(0, 0));
        Check.due("pulse without a REACH", -2, x.pulse(0, 0, 1, 0));
        Check.due("dam without a REACH", -1, x.dam(0, 1));
        Check.due("harm without a REACH", 0, x.harm());
        Check.due("rain without a REACH", 0, x.rain(20, 1));
        Check.due("night without a REACH", 0, x.night());
    }
}
