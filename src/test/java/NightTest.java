/** Promises 28 to 30: see, night, led. */
public final class NightTest {
    public static void main(String[] args) {
        see();
        found();
        manyFound();
        besidesTheOrder();
        farAway();
        lastHours();
        Check.close();
    }

    /** All that is put in passes in its HOUR. */
    private static Bells made() {
        Bells x = new Bells();
        Check.river(x, "reach a 100 0;colour c;colour d;guild g a 2 c 100;guild h a 2 c 30;");
        return x;
    }

    private static void see() {
        Bells x = made();
        Check.due("see(168, ..)", -1, x.see(168, 0, 0));
        Check.due("see(-1, ..)", -1, x.see(-1, 0, 0));
        Check.due("see(0, 2, ..)", -1, x.see(0, 2, 0));
        Check.due("see(0, -1, ..)", -1, x.see(0, -1, 0));
        Check.due("see(0, 0, -1)", -1, x.see(0, 0, -1));
        Check.due("none yet", 0, x.count(6));
        Check.due("see(0, 0, 0)", 0, x.see(0, 0, 0));
        Check.due("see(167, 1, ..)", 1, x.see(167, 1, Integer.MAX_VALUE));
        for (int k = 2; k < 20; k++) {
            Check.due("see", k, x.see(0, 0, 0));
        }
        Check.due("a 21st", -1, x.see(0, 0, 0));
        Check.due("count(6)", 20, x.count(6));
    }

    private static void led(Bells x, int g, int hour, int hours) {
        Check.due("led(0)", g, x.led(0));
        Check.due("led(1)", hour, x.led(1));
        Check.due("led(2)", hours, x.led(2));
        Check.due("led(3)", -1, x.led(3));
        Check.due("led(-1)", -1, x.led(-1));
    }

    private static void found() {
        Bells x = made();
        led(x, -1, -1, -1);
        x.see(9, 0, 0);
        x.see(10, 0, 30);
        x.see(12, 0, 30);
        x.see(13, 0, 0);
        led(x, -1, -1, -1);
        Check.due("night", 1, x.night());
        led(x, 1, 10, 3);
        Check.due("no BELL more", 0, x.count(5));
        x.see(11, 0, 31);
        led(x, 1, 10, 3);
        Check.due("none", 0, x.night());
        led(x, -1, -1, -1);
    }

    private static void manyFound() {
        Bells x = made();
        Check.due("nothing SEEN: each GUILD from each HOUR on", 2 * 993, x.night());
        led(x, -1, -1, -1);
        x.see(10, 0, 100);
        Check.due("g from 5 to 10 on", 21, x.night());
        led(x, -1, -1, -1);
        x.see(5, 0, 100);
        Check.due("g from 5 on, 6 HOURS", 1, x.night());
        led(x, 0, 5, 6);
        x.see(11, 0, 100);
        Check.due("7 HOURS are too many", 0, x.night());
        Bells y = made();
        y.see(10, 0, 0);
        Check.due("all others", 2 * (993 - 21), y.night());
        y.see(30, 1, 0);
        Check.due("nobody puts in d, so that it is as seen", 2 * (993 - 21), y.night());
        y.see(20, 1, 5);
        Check.due("nobody puts in d", 0, y.night());
    }

    private static void besidesTheOrder() {
        Bells x = made();
        x.ring(10, 0, 1);
        x.see(10, 0, 100);
        Check.due("g anywhere, h not in HOUR 10", 993 + 993 - 21, x.night());
        x.see(10, 0, 100);
        Check.due("a sight told twice", 993 + 993 - 21, x.night());
        x.see(11, 0, 130);
        Check.due("g and h can't both", 0, x.night());
        x.undo();
        x.ring(10, 0, 2);
        Check.due("h in HOUR 11 alone of both", 6, x.night());
        x.see(12, 0, 0);
        Check.due("h in HOUR 11 and no longer", 1, x.night());
        led(x, 1, 11, 1);
        Check.due("the ORDER is as it was", 200, x.sum(0, 0));
        Check.river(x, "");
        led(x, 1, 11, 1);
        Check.due("no GUILDS", 0, x.night());
        led(x, -1, -1, -1);
    }

    private static void farAway() {
        Bells x = new Bells();
        Check.river(x, "reach a 200 10;reach b 150 20;reach d 120 0;colour c;guild g a 2 c 900;guild h b 2 c 700;guild i a 3 c 901;flow 1 60;flow 3 40;");
        x.ring(30, 1, 20);
        x.ring(71, 2, 4);
        int[] seen = new int[6];
        for (int i = 0; i < 6; i++) {
            seen[i] = x.passed(72 + 2 * i, 0);
        }
        x.undo();
        // The week that was tried last is another one.
        x.harm();
        x.dam(0, 999);
        for (int i = 0; i < 6; i++) {
            x.see(72 + 2 * i, 0, seen[i]);
        }
        Check.due("night", 1, x.night());
        led(x, 2, 71, 4);
    }

    private static void lastHours() {
        Bells x = made();
        x.see(167, 0, 100);
        x.see(166, 0, 0);
        Check.due("the last HOUR", 1, x.night());
        led(x, 0, 167, 1);
        Bells y = made();
        y.see(0, 0, 30);
        y.see(1, 0, 0);
        Check.due("the first HOUR", 1, y.night());
        led(y, 1, 0, 1);
    }
}
