/** All that can be asked without changing anything: equal looks ahead of and behind a call tell that it changed nothing. */
final class Look {
    private static final int[] HOURS = {0, 1, 23, 24, 100, 167};

    private Look() {
    }

    /** Some 200 calls for the RIVER of 'small', so that an object bears two looks. */
    static String at(Bells x) {
        StringBuilder t = new StringBuilder();
        for (int what = 0; what < 8; what++) {
            t.append(" count ").append(x.count(what));
        }
        river(t, x);
        order(t, x);
        water(t, x);
        harm(t, x);
        t.append(" said ").append(x.said(-1)).append(' ').append(x.said(0)).append(' ').append(x.said(1));
        latest(t, x);
        return t.toString();
    }

    /** What calls told last. */
    static String latest(Bells x) {
        StringBuilder t = new StringBuilder();
        latest(t, x);
        return t.toString();
    }

    private static void latest(StringBuilder t, Bells x) {
        t.append(" fault ").append(x.fault()).append(" exchanges ").append(x.exchanges());
        for (int i = 0; i < 4; i++) {
            t.append(" led ").append(x.led(i)).append(" dayOf ").append(x.dayOf(i));
        }
    }

    private static void river(StringBuilder t, Bells x) {
        int colours = x.count(1);
        for (int r = 0; r < x.count(0); r++) {
            t.append(" reach ").append(x.reach(r, 0)).append(' ').append(x.reach(r, 1));
        }
        for (int g = 0; g < x.count(2); g++) {
            for (int what = 0; what < 2 + colours; what++) {
                t.append(" guild ").append(x.guild(g, what));
            }
        }
        for (int u = 0; u < x.count(3); u++) {
            for (int what = 0; what < 3 + colours; what++) {
                t.append(" user ").append(x.user(u, what));
            }
        }
        for (int day = 0; day < 7; day++) {
            t.append(" flow ").append(x.flow(day));
        }
    }

    private static void order(StringBuilder t, Bells x) {
        int bells = x.count(5);
        for (int k = 0; k < bells && k < 8; k++) {
            t.append(" bell ").append(x.bell(k, 0)).append(' ').append(x.bell(k, 1)).append(' ').append(x.bell(k, 2));
        }
    }

    private static void water(StringBuilder t, Bells x) {
        int reaches = x.count(0);
        int colours = x.count(1);
        for (int c = 0; c < colours; c++) {
            for (int hour : HOURS) {
                t.append(" passed ").append(x.passed(hour, c));
                t.append(" at ").append(x.at(hour, reaches - 1, c, 0)).append(' ').append(x.at(hour, 0, c, 1));
            }
            for (int what = 0; what < 4; what++) {
                t.append(" sum ").append(x.sum(c, what));
            }
        }
        t.append(" fine ").append(x.fine(0, 0)).append(' ').append(x.fine(1, reaches - 1));
    }

    private static void harm(StringBuilder t, Bells x) {
        t.append(" harm ").append(x.harm());
        for (int u = 0; u < x.count(3); u++) {
            t.append(" harmed ").append(x.harmed(u, -1)).append(' ').append(x.harmed(u, 0));
            t.append(" blame ").append(x.blame(0, u));
        }
        for (int g = 0; g < x.count(2); g++) {
            t.append(" duty ").append(x.duty(g));
        }
    }

    /** A RIVER of all sorts with BELLS, sights and a SENTENCE, and with all that calls tell last told. */
    static Bells small() {
        return small(new Bells());
    }

    static Bells small(Bells x) {
        Check.river(x, "reach a 100 10;reach b 50 0;colour c;colour d;guild g a 5 c 90 d 9;guild h b 2 d 8;"
            + "user u a 0 24 c 20;user v b 6 20 d 5;flow 0 50;flood 60;pebble c 9 5;");
        x.ring(0, 0, 2);
        x.ring(30, 1, 3);
        x.see(30, 1, 8);
        x.see(29, 1, 0);
        Check.sentence(x, "works g or harmed v");
        return x;
    }
}
