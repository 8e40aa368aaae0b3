/** Promises 1 to 3 and 37: a new object, feed, end, count. */
public final class TapeTest {
    public static void main(String[] args) {
        newObject();
        feed();
        end();
        takenTape();
        counts();
        Check.close();
    }

    private static void newObject() {
        Bells x = new Bells();
        for (int what = 0; what < 8; what++) {
            Check.due("count(" + what + ") of a new object", 0, x.count(what));
        }
        Check.due("fault", 0, x.fault());
        Check.due("harm", 0, x.harm());
        Check.due("exchange", 0, x.exchange());
        Check.due("exchanges", 0, x.exchanges());
        Check.due("said", -1, x.said(-1));
        Check.due("dayOf", -1, x.dayOf(0));
        Check.due("led", -1, x.led(0));
        Check.due("night", 0, x.night());
        Check.due("undo", -1, x.undo());
        Check.due("rain", 0, x.rain(20, 7));
        Check.due("restore", false, x.restore(0));
        Check.due("flow", 100, x.flow(6));
        Check.throwsNoSuch("reach", () -> x.reach(0, 0));
        Check.throwsNoSuch("bell", () -> x.bell(0, 0));
    }

    private static void feed() {
        Bells x = new Bells();
        Check.due("feed", 20, x.feed(0x636f6c6f, 0x75722072, 0x65643b63, 0x6f6c6f75, 0x7220623b));
        Check.due("count(7)", 20, x.count(7));
        Check.due("river: the highest byte first", 2, x.river());
        for (int i = 1; i <= 47; i++) {
            Check.due("feed " + i, 20 * i, x.feed(0, 0, 0, 0, 0));
        }
        Check.due("feed beyond 940", -1, x.feed(1, 1, 1, 1, 1));
        Check.due("count(7) then", 940, x.count(7));
        Check.due("end(921)", true, x.end(921));
        Check.due("feed to 941", -1, x.feed(1, 1, 1, 1, 1));
        Check.due("count(7) then", 921, x.count(7));
        Check.due("end(920)", true, x.end(920));
        Check.due("feed to 940", 940, x.feed(1, 1, 1, 1, 1));
    }

    private static void end() {
        Bells x = new Bells();
        Check.due("end(0)", true, x.end(0));
        Check.due("end(1) of none", false, x.end(1));
        x.feed(0x636f6c6f, 0x75722072, 0x65643b63, 0x6f6c6f75, 0x7220623b);
        Check.due("end(-1)", false, x.end(-1));
        Check.due("end(21)", false, x.end(21));
        Check.due("count(7)", 20, x.count(7));
        Check.due("end(20)", true, x.end(20));
        Check.due("end(11)", true, x.end(11));
        Check.due("end(12)", false, x.end(12));
        Check.due("count(7)", 11, x.count(7));
        Check.due("river", 1, x.river());
        Check.due("end(1) behind river", false, x.end(1));
    }

    private static void takenTape() {
        Bells x = new Bells();
        Check.tape(x, "x");
        x.river();
        Check.due("tape behind a river with a FAULT", 0, x.count(7));
        Check.tape(x, "colour red;");
        x.river();
        Check.due("tape behind a river", 0, x.count(7));
        Check.tape(x, "x");
        x.order();
        Check.due("tape behind an order", 0, x.count(7));
        Check.tape(x, "x");
        x.sentence();
        Check.due("tape behind a sentence", 0, x.count(7));
        Check.tape(x, "x");
        x.days(0);
        Check.due("tape behind days", 0, x.count(7));
        Check.tape(x, "x");
        x.days(24);
        Check.due("tape behind days at no HOUR", 0, x.count(7));
    }

    private static void counts() {
        Bells x = new Bells();
        Check.river(x, "reach a 5 5;reach b 5 5;reach d 5 5;reach e 5 5;reach f 5 5;colour c;colour k;colour l;"
            + "guild g a 1 c 1;guild h a 1 c 1;user u a 0 1;pebble c 1 1;pebble c 2 1;pebble c 3 1;pebble k 1 1;");
        x.ring(0, 0, 1);
        x.ring(0, 0, 1);
        x.ring(0, 0, 1);
        x.see(0, 0, 0);
        x.see(0, 0, 0);
        x.feed(0, 0, 0, 0, 0);
        int[] due = {5, 3, 2, 1, 4, 3, 2, 20};
        for (int what = 0; what < due.length; what++) {
            Check.due("count(" + what + ")", due[what], x.count(what));
        }
        Check.due("count(8)", -1, x.count(8));
        Check.due("count(-1)", -1, x.count(-1));
        Check.due("count of the greatest", -1, x.count(Integer.MAX_VALUE));
        Check.due("count of the least", -1, x.count(Integer.MIN_VALUE));
    }
}
