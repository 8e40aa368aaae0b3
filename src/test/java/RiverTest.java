/** Promises 4 to 9: river, fault, reach, guild, user, flow. */
public final class RiverTest {
    private static final String HEAD = "reach a 5 5;colour c;";

    public static void main(String[] args) {
        told();
        tokens();
        cantCome();
        numbers();
        names();
        tooMany();
        tooLong();
        stays();
        newRiver();
        Check.close();
    }

    private static void told() {
        Bells x = new Bells();
        Check.due("river", 12, Check.river(x, "reach up 1 0;reach low 9999 500;colour red;colour blue;guild dye low 24 blue 9999 red 1;"
            + "guild vat up 1 red 7;user mill up 0 1;user farm low 23 24 red 0 blue 9999;flow 0 0;flow 6 9999;flood 1;pebble red 1 0;"));
        Check.due("fault", 0, x.fault());
        Check.due("reach(0, 0)", 1, x.reach(0, 0));
        Check.due("reach(0, 1)", 0, x.reach(0, 1));
        Check.due("reach(1, 0)", 9999, x.reach(1, 0));
        Check.due("reach(1, 1)", 500, x.reach(1, 1));
        Check.throwsNoSuch("reach(2, 0)", () -> x.reach(2, 0));
        Check.throwsNoSuch("reach(-1, 0)", () -> x.reach(-1, 0));
        Check.throwsNoSuch("reach(0, 2)", () -> x.reach(0, 2));
        Check.throwsNoSuch("reach(0, -1)", () -> x.reach(0, -1));
        int[] dye = {1, 24, 1, 9999};
        int[] vat = {0, 1, 7, 0};
        int[] mill = {0, 0, 1, -1, -1};
        int[] farm = {1, 23, 24, 0, 9999};
        for (int what = 0; what < 4; what++) {
            Check.due("guild(0, " + what + ")", dye[what], x.guild(0, what));
            Check.due("guild(1, " + what + ")", vat[what], x.guild(1, what));
        }
        for (int what = 0; what < 5; what++) {
            Check.due("user(0, " + what + ")", mill[what], x.user(0, what));
            Check.due("user(1, " + what + ")", farm[what], x.user(1, what));
        }
        Check.throwsNoSuch("guild(2, 0)", () -> x.guild(2, 0));
        Check.throwsNoSuch("guild(-1, 0)", () -> x.guild(-1, 0));
        Check.throwsNoSuch("guild(0, 4)", () -> x.guild(0, 4));
        Check.throwsNoSuch("guild(0, -1)", () -> x.guild(0, -1));
        Check.throwsNoSuch("user(2, 0)", () -> x.user(2, 0));
        Check.throwsNoSuch("user(-1, 0)", () -> x.user(-1, 0));
        Check.throwsNoSuch("user(0, 5)", () -> x.user(0, 5));
        Check.throwsNoSuch("user(0, -1)", () -> x.user(0, -1));
        Check.due("flow(0)", 0, x.flow(0));
        Check.due("flow(1)", 100, x.flow(1));
        Check.due("flow(6)", 9999, x.flow(6));
        Check.throwsNoSuch("flow(7)", () -> x.flow(7));
        Check.throwsNoSuch("flow(-1)", () -> x.flow(-1));
    }

    private static void tokens() {
        Bells x = new Bells();
        Check.due("no blanks", 2, Check.river(x, "colour c;flood 5;"));
        Check.due("many blanks", 2, Check.river(x, " \n colour\n c ; \n\nflood 0005\n; "));
        Check.due("blanks alone", 0, Check.river(x, " \n \n"));
        Check.due("six letters", 1, Check.river(x, "colour abcdef;"));
        Check.riverFault(x, "colour abcdefg;", 1, 7);
        Check.riverFault(x, "flood 00005;", 1, 6);
        Check.riverFault(x, "flood 5a;", 1, 6);
        Check.riverFault(x, "colour a5;", 1, 7);
        Check.riverFault(x, "colour\tc;", 1, 6);
        Check.riverFault(x, "colour\rc;", 1, 6);
        Check.riverFault(x, "colour C;", 1, 7);
        Check.riverFault(x, "colour c.", 1, 8);
        Check.riverFault(x, "colour " + (char) 233 + ";", 1, 7);
        Check.riverFault(x, "colour " + (char) 0 + ";", 1, 7);
        Check.riverFault(x, "colour c;.", 1, 9);
    }

    private static void cantCome() {
        Bells x = new Bells();
        Check.riverFault(x, "c", 1, 0);
        Check.riverFault(x, ";", 1, 0);
        Check.riverFault(x, " 5", 1, 1);
        Check.riverFault(x, "bell 0 0 g 1;", 1, 0);
        Check.riverFault(x, "colour", 1, 6);
        Check.riverFault(x, "colour  ", 1, 8);
        Check.riverFault(x, "colour c", 1, 8);
        Check.riverFault(x, "colour c colour", 1, 9);
        Check.riverFault(x, "colour c 5;", 1, 9);
        Check.riverFault(x, "colour 5;", 1, 7);
        Check.riverFault(x, "reach a b 5;", 1, 8);
        Check.riverFault(x, "reach 5 5;", 1, 6);
        Check.riverFault(x, "reach a 5;", 1, 9);
        Check.riverFault(x, "reach a 5 5 5;", 1, 12);
        Check.riverFault(x, "flow a 5;", 1, 5);
        Check.riverFault(x, "flood;", 1, 5);
        Check.riverFault(x, HEAD + "guild g a 5;", 1, 32);
        Check.riverFault(x, HEAD + "guild g a 5 c;", 1, 34);
        Check.riverFault(x, HEAD + "guild g a 5 c 5 5;", 1, 37);
        Check.riverFault(x, HEAD + "guild g 5 c 5;", 1, 29);
        Check.riverFault(x, HEAD + "user u a 0;", 1, 31);
        Check.riverFault(x, HEAD + "user u a 0 1 c;", 1, 35);
        Check.riverFault(x, HEAD + "pebble c 5;", 1, 31);
        String[] words = {"reach", "colour", "guild", "user", "flow", "flood", "pebble", "bell", "or", "and", "not",
            "works", "harmed", "shade", "hour", "day", "passed"};
        for (String word : words) {
            x = new Bells();
            Check.riverFault(x, "colour " + word + ";", 1, 7);
            Check.riverFault(x, HEAD + "guild g " + word + " 1;", 1, 29);
            Check.riverFault(x, HEAD + "guild g a 1 " + word + " 1;", 1, 33);
        }
    }

    private static void numbers() {
        Bells x = new Bells();
        Check.riverFault(x, "reach a 0 5;", 2, 8);
        Check.riverFault(x, "reach a 5 501;", 2, 10);
        Check.riverFault(x, HEAD + "guild g a 0 c 5;", 2, 31);
        Check.riverFault(x, HEAD + "guild g a 25 c 5;", 2, 31);
        Check.riverFault(x, HEAD + "guild g a 24 c 0;", 2, 36);
        Check.riverFault(x, HEAD + "user u a 24 24;", 2, 30);
        Check.riverFault(x, HEAD + "user u a 5 5;", 2, 32);
        Check.riverFault(x, HEAD + "user u a 5 4;", 2, 32);
        Check.riverFault(x, HEAD + "user u a 5 25;", 2, 32);
        Check.riverFault(x, "flow 7 5;", 2, 5);
        Check.riverFault(x, "flood 0;", 2, 6);
        Check.riverFault(x, HEAD + "pebble c 0 5;", 2, 30);
        Check.riverFault(x, HEAD + "pebble c 1 1000;", 2, 32);
        Check.due("user bears 0", 3, Check.river(x, HEAD + "user u a 5 6 c 0;"));
        Check.due("pebble 999", 3, Check.river(x, HEAD + "pebble c 9999 999;"));
    }

    private static void names() {
        Bells x = new Bells();
        Check.riverFault(x, "reach a 5 5;reach a 0 0;", 3, 18);
        Check.riverFault(x, "reach a 5 5;colour a;", 3, 19);
        Check.riverFault(x, HEAD + "guild a a 1 c 1;", 3, 27);
        Check.riverFault(x, HEAD + "user c a 1 2;", 3, 26);
        Check.riverFault(x, HEAD + "guild g x 1 c 1;", 3, 29);
        Check.riverFault(x, HEAD + "guild g c 1 c 1;", 3, 29);
        Check.riverFault(x, HEAD + "guild g g 1 c 1;", 3, 29);
        Check.riverFault(x, HEAD + "guild g a 1 a 1;", 3, 33);
        Check.riverFault(x, HEAD + "guild g a 1 x 1;", 3, 33);
        Check.riverFault(x, HEAD + "guild g a 5 c 5 c 0;", 3, 37);
        Check.riverFault(x, HEAD + "colour d;guild g a 5 c 5 d 5 c 5;", 3, 50);
        Check.riverFault(x, HEAD + "colour d;colour e;colour f;guild g a 5 c 5 d 5 e 5 f 5 d 5;", 3, 76);
        Check.riverFault(x, HEAD + "colour d;colour e;colour f;user g a 5 6 f 5 e 5 d 5 c 5 c 5;", 3, 77);
        Check.riverFault(x, HEAD + "user u c 1 2;", 3, 28);
        Check.riverFault(x, HEAD + "user u a 1 2 c 5 c;", 3, 38);
        Check.riverFault(x, HEAD + "pebble a 1 2;", 3, 28);
        Check.riverFault(x, HEAD + "pebble c 5 1;pebble c 5 2;", 3, 43);
        Check.riverFault(x, "flow 1 5;flow 1 6;", 3, 14);
        Check.riverFault(x, "flow 0 100;flow 0 x;", 3, 16);
        Check.riverFault(x, "flood 9999;flood x", 3, 11);
        Check.riverFault(x, "guild g a 1 c 1;reach a 5 5;colour c;", 3, 8);
        Check.due("one N of two COLOURS", 5, Check.river(x, HEAD + "colour d;pebble c 5 1;pebble d 5 1;"));
    }

    private static void tooMany() {
        Bells x = new Bells();
        StringBuilder reaches = new StringBuilder();
        StringBuilder colours = new StringBuilder();
        StringBuilder guilds = new StringBuilder(HEAD);
        StringBuilder users = new StringBuilder(HEAD);
        StringBuilder pebbles = new StringBuilder(HEAD);
        for (char i = 'e'; i < 'e' + 10; i++) {
            reaches.append("reach ").append(i).append(" 5 5;");
        }
        for (char i = 'e'; i < 'e' + 4; i++) {
            colours.append("colour ").append(i).append(';');
        }
        for (char i = 'e'; i < 'e' + 6; i++) {
            guilds.append("guild ").append(i).append(" a 1 c 1;");
            users.append("user ").append(i).append(" a 0 1;");
        }
        for (int i = 1; i <= 12; i++) {
            pebbles.append("pebble c ").append(i).append(" 1;");
        }
        Check.due("ten REACHES", 10, Check.river(x, reaches.toString()));
        Check.riverFault(x, reaches + "reach", 4, reaches.length());
        Check.due("four COLOURS", 4, Check.river(x, colours.toString()));
        Check.riverFault(x, colours + "colour 5", 4, colours.length());
        Check.due("six GUILDS", 8, Check.river(x, guilds.toString()));
        Check.riverFault(x, guilds + "guild e", 4, guilds.length());
        Check.due("six USERS", 8, Check.river(x, users.toString()));
        Check.riverFault(x, users + "user z a 0 1;", 4, users.length());
        Check.due("12 pebbles", 14, Check.river(x, pebbles.toString()));
        Check.riverFault(x, pebbles + " pebble c 13 1;", 4, pebbles.length() + 1);
        Check.due("all sorts", 26, Check.river(x, reaches + "colour oa;colour ob;colour oc;colour od;"
            + "guild ga e 1 oa 1;guild gb e 1 oa 1;guild gc e 1 oa 1;guild gd e 1 oa 1;guild ge e 1 oa 1;"
            + "guild gf n 24 oa 1 ob 2 oc 3 od 4;user ua e 0 1;user ub e 0 1;user uc e 0 1;user ud e 0 1;user ue e 0 1;"
            + "user uf n 0 24 od 4 oc 3 ob 2 oa 1;"));
        Check.due("the last GUILD", 4, x.guild(5, 5));
        Check.due("the last USER", 4, x.user(5, 6));
        Check.due("the last REACH", 9, x.user(5, 0));
    }

    private static String padded(String head, int till, String tail) {
        return head + " ".repeat(till - head.length()) + tail;
    }

    private static void tooLong() {
        Check.due("900 bytes", 1, Check.river(new Bells(), padded("colour c;", 900, "")));
        Check.riverFault(new Bells(), padded("colour c;", 901, ""), 1, 900);
        Check.riverFault(new Bells(), padded("colour c;", 940, ""), 1, 900);
        Check.riverFault(new Bells(), padded("colour c", 900, ""), 1, 900);
        Check.riverFault(new Bells(), padded("colour c;", 891, "colour d;."), 1, 900);
        Check.due("';' is the 900th", 2, Check.river(new Bells(), padded("colour c;", 891, "colour d;")));
        Check.riverFault(new Bells(), padded("colour c;", 892, "colour d;"), 1, 900);
        Check.riverFault(new Bells(), padded("colour c;", 897, "colour d;"), 1, 900);
        Check.riverFault(new Bells(), padded("colour c;", 897, "colours"), 1, 897);
        Check.riverFault(new Bells(), padded("flood 5;", 897, "flood 5;"), 3, 897);
        Check.riverFault(new Bells(), padded("reach a 5", 899, "500;"), 1, 900);
        Check.riverFault(new Bells(), padded("reach a 5", 899, "501;"), 2, 899);
        Check.riverFault(new Bells(), padded("reach a 5", 899, "00500;"), 1, 899);
        Check.riverFault(new Bells(), padded("reach a 5", 900, "501;"), 1, 900);
        Check.riverFault(new Bells(), padded("colour c;x", 940, ""), 1, 9);
    }

    private static void stays() {
        Bells x = new Bells();
        Check.river(x, HEAD + "guild g a 3 c 7;flow 2 9;");
        x.ring(1, 0, 2);
        x.see(0, 0, 0);
        Check.sentence(x, "works g");
        Check.riverFault(x, "reach z 7 7;colour y;flow 2 8;x", 1, 30);
        Check.due("reach stays", 5, x.reach(0, 0));
        Check.due("flow stays", 9, x.flow(2));
        Check.due("guild stays", 7, x.guild(0, 2));
        Check.due("the bell stays", 1, x.count(5));
        Check.due("the sight stays", 1, x.count(6));
        Check.due("the SENTENCE stays", 2, x.said(-1));
        Check.due("the names stay", 1, Check.order(x, "bell 0 0 g 1;"));
        Check.due("fault of an order without one", 0, x.fault());
    }

    private static void newRiver() {
        Bells x = new Bells();
        Check.river(x, HEAD + "guild g a 3 c 7;user u a 0 1 c 3;flow 2 9;flood 3;");
        x.ring(1, 0, 2);
        x.see(0, 0, 0);
        Check.sentence(x, "works g");
        Check.due("a new RIVER", 4, Check.river(x, HEAD + "guild g a 3 c 7;user u a 0 1;"));
        Check.due("no BELLS", 0, x.count(5));
        Check.due("nothing SEEN", 0, x.count(6));
        Check.due("no SENTENCE", -1, x.said(-1));
        Check.due("flow without", 100, x.flow(2));
        Check.due("borne: any", -1, x.user(0, 3));
        String tail = "guild g a 1 c 9;guild h a 1 c 8 d 7;user u a 0 1 d 5 c 6;user v a 0 1 c 4 d 3;";
        Check.river(x, HEAD + "colour d;" + tail);
        Check.river(x, HEAD + "colour d;guild h a 1 d 2;guild g a 1 d 1;user v a 0 1 d 1;user u a 0 1 d 2;");
        Check.due("h puts in no c", 0, x.guild(0, 2));
        Check.due("h puts in d", 2, x.guild(0, 3));
        Check.due("g puts in no c", 0, x.guild(1, 2));
        Check.due("v bears any c", -1, x.user(0, 3));
        Check.due("u bears any c", -1, x.user(1, 3));
        Check.due("empty", 0, Check.river(x, ""));
        Check.due("no REACH", 0, x.count(0));
        Check.due("no pebble", 0, x.count(4));
    }
}
