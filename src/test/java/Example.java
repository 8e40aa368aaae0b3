/** How the class is used: README.md shows this program and what it prints. */
public final class Example {
    public static void main(String[] args) {
        DyerBells bells = new DyerBells();

        put(bells, "reach up 100 0; reach low 200 10; colour red; colour blue;"
            + "guild dye up 2 red 500; guild ink up 3 blue 80; user mill low 6 18 red 20; flow 1 60;");
        System.out.println("LINES of the RIVER: " + bells.river());
        put(bells, "bell 0 8 dye 2; bell 0 9 ink 3;");
        System.out.println("BELLS of the ORDER: " + bells.order());
        System.out.println("number of a BELL more: " + bells.ring(30, 0, 1));

        System.out.println("SHADE of red in 'low' behind HOUR 9: " + bells.at(9, 1, 0, 2));
        System.out.println("HOURS HARMED of all USERS: " + bells.harm());
        System.out.println("of these to be blamed on 'dye': " + bells.blame(0, 0));
        System.out.println("BELL 0 may be later by: " + bells.late(0));

        put(bells, "harmed mill and not works dye");
        System.out.println("ONES of the SENTENCE: " + bells.sentence());
        System.out.println("HOURS of which it may be said: " + bells.said(DyerBells.NONE));

        bells.image(0);
        System.out.println("BELLS left: " + bells.undo());
        bells.feed(0, 0, 0, 0, 0);
        bells.end(1);
        System.out.println("fewest HOURS HARMED, if 'dye' (GUILD 0) works on a DAY more from 18 on: " + bells.days(18));
        System.out.println("that DAY: " + bells.dayOf(0));
        bells.restore(0);
        System.out.println("BELLS again: " + bells.count(5));

        put(bells, "bell 7 0 dye 1;");
        System.out.println("an ORDER with a FAULT: " + bells.order() + ", its kind: " + bells.fault());
    }

    /** The tape has this text alone: what the last twenty bytes have too many is cut off. */
    private static void put(DyerBells bells, String text) {
        bells.end(0);
        int[] four = new int[5];
        for (int from = 0; from < text.length(); from += 20) {
            for (int i = 0; i < 20; i++) {
                int sign = from + i < text.length() ? text.charAt(from + i) : 0;
                four[i / 4] = four[i / 4] << 8 | sign;
            }
            bells.feed(four[0], four[1], four[2], four[3], four[4]);
        }
        bells.end(text.length());
    }
}
