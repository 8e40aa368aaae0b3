/** Promises 35 and 36: image, restore. */
public final class KeptTest {
    private static final String ONE = "reach a 100 0;colour c;guild g a 3 c 100;guild h a 1 c 10;user u a 0 24 c 5;flow 0 50;flood 900;pebble c 5 7;";
    private static final String OTHER = "reach b 50 1;reach d 60 2;colour g;colour k;guild a d 1 k 9;";

    public static void main(String[] args) {
        places();
        all();
        both();
        others();
        copies();
        sights();
        Check.close();
    }

    private static void places() {
        Bells x = new Bells();
        Check.due("nothing is kept", false, x.restore(0));
        Check.due("nothing is kept", false, x.restore(1));
        Check.due("image(2)", false, x.image(2));
        Check.due("image(-1)", false, x.image(-1));
        Check.due("restore(2)", false, x.restore(2));
        Check.due("restore(-1)", false, x.restore(-1));
        Check.due("image(1)", true, x.image(1));
        Check.due("nothing is kept in 0", false, x.restore(0));
        Check.river(x, ONE);
        Check.due("restore(1)", true, x.restore(1));
        Check.due("an empty RIVER", 0, x.count(0));
        Check.due("flow without", 100, x.flow(0));
    }

    private static Bells made() {
        Bells x = new Bells();
        Check.river(x, ONE);
        Check.order(x, "bell 0 0 g 1;bell 0 5 h 2;");
        x.see(3, 0, 4);
        Check.sentence(x, "works h or shade c a>20");
        return x;
    }

    private static void isOne(Bells x) {
        int[] counts = {1, 1, 2, 1, 1, 2, 1};
        for (int what = 0; what < counts.length; what++) {
            Check.due("count(" + what + ")", counts[what], x.count(what));
        }
        Check.due("VOL", 100, x.reach(0, 0));
        Check.due("HOURS told", 3, x.guild(0, 1));
        Check.due("borne", 5, x.user(0, 3));
        Check.due("flow", 50, x.flow(0));
        Check.due("bell(1, 0)", 5, x.bell(1, 0));
        Check.due("in the water", 50, x.at(0, 0, 0, 0));
        Check.due("fine", 7, x.fine(0, 0));
        Check.due("said: 0, 1, 5, 6", 4, x.said(-1));
    }

    private static void all() {
        Bells x = made();
        isOne(x);
        Check.due("image(0)", true, x.image(0));
        Check.river(x, OTHER);
        Check.due("the other", 9, x.guild(0, 3));
        Check.due("restore", true, x.restore(0));
        isOne(x);
        Check.due("the names", 1, Check.order(x, "bell 0 0 h 1;"));
        Check.due("the names", 1, Check.sentence(x, "harmed u"));
        x.see(1, 0, 1);
        Check.due("restore again", true, x.restore(0));
        isOne(x);
        x.see(3, 0, 5);
        Check.due("two sights of one HOUR", 0, x.night());
        Check.river(x, ONE.replace("flow 0 50;flood 900;", ""));
        Check.due("flow without", 100, x.flow(0));
        x.restore(0);
        isOne(x);
    }

    private static void both() {
        Bells x = made();
        x.image(0);
        Check.river(x, OTHER);
        x.ring(7, 0, 1);
        x.image(1);
        x.restore(0);
        isOne(x);
        x.restore(1);
        Check.due("the other", 9, x.guild(0, 3));
        Check.due("its BELL", 7, x.bell(0, 0));
        Check.due("its SENTENCE: none", -1, x.said(-1));
        Check.due("its sights: none", 0, x.count(6));
        x.image(0);
        x.undo();
        x.restore(0);
        Check.due("kept anew", 7, x.bell(0, 0));
    }

    /** The tape and what other calls told last stay. */
    private static void others() {
        Bells x = new Bells();
        Check.river(x, "reach a 100 0;colour c;guild big a 1 c 100;guild sml a 1 c 4;user u a 0 12 c 5;flow 0 50;");
        x.image(0);
        x.ring(0, 0, 1);
        x.ring(12, 1, 1);
        x.exchange();
        Check.due("days", 0, Check.days(x, 0, 0));
        x.see(1, 0, 0);
        x.see(24, 0, 1);
        Check.river(x, "reach a 100 0;colour c;guild g a 1 c 100;");
        x.see(5, 0, 100);
        x.see(4, 0, 0);
        x.see(6, 0, 0);
        Check.due("night", 1, x.night());
        Check.sentence(x, "x");
        x.feed(1, 2, 3, 4, 5);
        Check.due("restore", true, x.restore(0));
        Check.due("the tape", 20, x.count(7));
        Check.due("fault", 1, x.fault());
        Check.due("exchanges", 1, x.exchanges());
        Check.due("dayOf", 1, x.dayOf(0));
        Check.due("led", 5, x.led(1));
    }

    private static void sights() {
        Bells x = new Bells();
        Check.river(x, "reach a 100 0;colour c;colour d;guild g a 1 c 100;guild h a 1 d 100;");
        x.see(7, 1, 0);
        x.see(8, 1, 100);
        x.see(9, 1, 0);
        x.image(0);
        Check.river(x, "reach a 100 0;colour c;colour d;guild g a 1 c 100;guild h a 1 d 100;");
        x.see(100, 0, 1);
        x.see(101, 0, 1);
        x.see(102, 0, 1);
        Check.due("none can", 0, x.night());
        x.restore(0);
        Check.due("night as kept", 1, x.night());
        Check.due("led(0)", 1, x.led(0));
        Check.due("led(1)", 8, x.led(1));
        Check.due("led(2)", 1, x.led(2));
    }

    /** What is done behind an image or a restore does not reach what is kept. */
    private static void copies() {
        Bells x = made();
        x.image(1);
        x.ring(9, 1, 1);
        x.see(0, 0, 0);
        x.restore(1);
        isOne(x);
        x.undo();
        x.undo();
        x.ring(100, 1, 24);
        x.exchange();
        x.restore(1);
        isOne(x);
        Check.order(x, "bell 0 0 h 1;bell 0 13 g 1;");
        x.image(1);
        x.exchange();
        x.restore(1);
        Check.due("the GUILDS as kept", 1, x.bell(0, 1));
    }
}
