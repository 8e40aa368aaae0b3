/** Promises 10 to 13: order, ring, undo, bell. */
public final class OrderTest {
    private static final String RIVER = "reach a 100 0;colour c;guild g a 2 c 100;guild h a 2 c 30;user u a 0 24 c 5;";

    public static void main(String[] args) {
        told();
        faults();
        rung();
        undone();
        Check.close();
    }

    private static Bells made() {
        Bells x = new Bells();
        Check.river(x, RIVER);
        return x;
    }

    private static void told() {
        Bells x = made();
        Check.due("order", 3, Check.order(x, "bell 0 0 g 24;\nbell 6 23 h 1 ;bell 2 5 g 7;"));
        Check.due("fault", 0, x.fault());
        int[][] due = {{0, 0, 24}, {167, 1, 1}, {53, 0, 7}};
        for (int k = 0; k < 3; k++) {
            for (int what = 0; what < 3; what++) {
                Check.due("bell(" + k + ", " + what + ")", due[k][what], x.bell(k, what));
            }
        }
        Check.throwsNoSuch("bell(3, 0)", () -> x.bell(3, 0));
        Check.throwsNoSuch("bell(-1, 0)", () -> x.bell(-1, 0));
        Check.throwsNoSuch("bell(0, 3)", () -> x.bell(0, 3));
        Check.throwsNoSuch("bell(0, -1)", () -> x.bell(0, -1));
        Check.due("another order", 1, Check.order(x, "bell 1 1 h 1;"));
        Check.due("its HOUR", 25, x.bell(0, 0));
        Check.throwsNoSuch("bell(1, 0)", () -> x.bell(1, 0));
        Check.due("an empty order", 0, Check.order(x, ""));
        Check.due("no BELLS", 0, x.count(5));
    }

    private static void faults() {
        Bells x = made();
        Check.order(x, "bell 0 3 h 2;");
        Check.orderFault(x, "bel 0 0 g 1;", 1, 0);
        Check.orderFault(x, "bell", 1, 4);
        Check.orderFault(x, "bell 0 0 g 1", 1, 12);
        Check.orderFault(x, "bell 0 0 g 1;;", 1, 13);
        Check.orderFault(x, "bell 0 0 5 1;", 1, 9);
        Check.orderFault(x, "bell 0 0 bell 1;", 1, 9);
        Check.orderFault(x, "bell 0 0 g g;", 1, 11);
        Check.orderFault(x, "bell 7 0 g 1;", 2, 5);
        Check.orderFault(x, "bell 0 24 g 1;", 2, 7);
        Check.orderFault(x, "bell 0 0 g 0;", 2, 11);
        Check.orderFault(x, "bell 0 0 g 25;", 2, 11);
        Check.orderFault(x, "bell 6 0 g 24;bell 6 1 g 24;", 2, 25);
        Check.orderFault(x, "bell 6 23 g 2;", 2, 12);
        Check.orderFault(x, "bell 0 0 a 1;", 3, 9);
        Check.orderFault(x, "bell 0 0 c 1;", 3, 9);
        Check.orderFault(x, "bell 0 0 u 1;", 3, 9);
        Check.orderFault(x, "bell 0 0 x 1;", 3, 9);
        Check.orderFault(x, "bell 0 0 x 99;", 3, 9);
        String forty = "bell 0 0 g 1;".repeat(40);
        Check.orderFault(x, forty + "bell", 4, forty.length());
        Check.due("it stays", 1, x.count(5));
        Check.due("it stays", 3, x.bell(0, 0));
        Check.due("it stays", 1, x.bell(0, 1));
        Check.due("forty", 40, Check.order(x, forty));
        Check.due("600 bytes", 40, Check.order(x, forty + " ".repeat(600 - forty.length())));
        Check.orderFault(x, forty + " ".repeat(601 - forty.length()), 1, 600);
        Check.orderFault(x, forty + " ".repeat(597 - forty.length()) + "bell 0 0 g 1;", 4, 597);
        Check.orderFault(x, "bell 0 0 g" + " ".repeat(589) + "24;", 1, 600);
        Check.orderFault(x, "bell 0 0 g" + " ".repeat(589) + "25;", 2, 599);
    }

    private static void rung() {
        Bells x = made();
        Check.due("ring(0, 0, 24)", 0, x.ring(0, 0, 24));
        Check.due("ring(167, 1, 1)", 1, x.ring(167, 1, 1));
        Check.due("ring(144, 1, 24)", 2, x.ring(144, 1, 24));
        Check.due("ring(145, 1, 24)", -1, x.ring(145, 1, 24));
        Check.due("ring(167, 1, 2)", -1, x.ring(167, 1, 2));
        Check.due("ring(168, 1, 1)", -1, x.ring(168, 1, 1));
        Check.due("ring(-1, 1, 1)", -1, x.ring(-1, 1, 1));
        Check.due("ring(0, 2, 1)", -1, x.ring(0, 2, 1));
        Check.due("ring(0, -1, 1)", -1, x.ring(0, -1, 1));
        Check.due("ring(0, 0, 0)", -1, x.ring(0, 0, 0));
        Check.due("ring(0, 0, 25)", -1, x.ring(0, 0, 25));
        Check.due("ring of the greatest", -1, x.ring(100, 0, Integer.MAX_VALUE));
        Check.due("count(5)", 3, x.count(5));
        Check.due("bell(2, 0)", 144, x.bell(2, 0));
        Check.due("bell(2, 1)", 1, x.bell(2, 1));
        Check.due("bell(2, 2)", 24, x.bell(2, 2));
        for (int k = 3; k < 40; k++) {
            Check.due("ring " + k, k, x.ring(k, 0, 1));
        }
        Check.due("a 41st", -1, x.ring(0, 0, 1));
        Check.due("count(5)", 40, x.count(5));
    }

    private static void undone() {
        Bells x = made();
        Check.due("undo of none", -1, x.undo());
        Check.order(x, "bell 0 0 g 1;bell 0 1 h 1;");
        x.ring(7, 0, 1);
        Check.due("put in", 230, x.sum(0, 0));
        Check.due("undo", 2, x.undo());
        Check.due("put in", 130, x.sum(0, 0));
        Check.throwsNoSuch("bell(2, 0)", () -> x.bell(2, 0));
        Check.due("undo", 1, x.undo());
        Check.due("the first is left", 0, x.bell(0, 1));
        Check.due("undo", 0, x.undo());
        Check.due("undo of none", -1, x.undo());
        Check.due("count(5)", 0, x.count(5));
        Check.due("put in", 0, x.sum(0, 0));
    }
}
