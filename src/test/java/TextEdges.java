/** Terms, part 1: TOKENS, a RIVER's LINES and its FAULTS. */
final class TextEdges {
    private static final String HEAD = "reach a 5 5;colour c;";
    private static final int HEAD_BYTES = 21;
    private static final String[] WORDS = {"reach", "colour", "guild", "user", "flow", "flood", "pebble", "bell", "or",
        "and", "not", "works", "harmed", "shade", "hour", "day", "passed"};

    private TextEdges() {
    }

    /** HEAD and a LINE more; the FAULT's place is told as one of the LINE. */
    private static void lineFault(Bells x, String line, int kind, int place) {
        Check.riverFault(x, HEAD + line, kind, HEAD_BYTES + place);
    }

    private static void lineTaken(Bells x, String line) {
        Check.riverTaken(x, HEAD + line, 3);
    }

    // ---- TOKENS

    @Says("TOKENS of all texts, with blanks (32, 10) between them or not:")
    static void termsTokensWithBlanksOrNot(Bells x) {
        Check.riverTaken(x, "reach a 5 5;colour c;guild g a 1 c 1;", 3);
        Check.riverTaken(x, "\n \nreach\na\n5\n5\n;\ncolour  c ;guild g a 1 c 1 ; \n", 3);
        Check.orderTaken(x, "bell 0 0 g 1;bell 0 0 g 1;", 2);
        Check.orderTaken(x, " \nbell\n0  0\n g 1 ;\nbell 0 0 g 1\n;\n", 2);
        Check.sentenceTaken(x, "not(hour<5)", 3);
        Check.sentenceTaken(x, "\nnot (\n hour < 5\n)\n ", 3);
        Check.riverTaken(x, " \n", 0);
        Check.orderTaken(x, "\n ", 0);
    }

    @Says("with blanks (32, 10) between them")
    static void termsTokensNoOtherByteIsABlank(Bells none) {
        for (int from = 0; from < 256; from += 64) {
            Bells x = new Bells();
            for (int b = from; b < from + 64; b++) {
                String text = "colour" + (char) b + "c;";
                boolean goesOn = b >= 'a' && b <= 'z' || b >= '0' && b <= '9';
                if (b == 32 || b == 10) {
                    Check.riverTaken(x, text, 1);
                } else {
                    Check.riverFault(x, text, 1, goesOn ? 0 : 6);
                }
            }
        }
    }

    @Says("WORDS: small letters, 1 to 6;")
    static void termsTokensWordsHaveOneToSixSmallLetters(Bells x) {
        for (int n = 1; n <= 6; n++) {
            Check.riverTaken(x, "colour " + "a".repeat(n) + ";colour " + "z".repeat(n) + ";", 2);
        }
        Check.riverFault(x, "colour aaaaaaa;", 1, 7);
        Check.riverFault(x, "colour " + "z".repeat(30) + ";", 1, 7);
        Check.riverFault(x, "colours c;", 1, 0);
        Check.riverFault(x, "aacolour c;", 1, 0);
        Check.riverFault(x, "aaaaaaaacolour c;", 1, 0);
        Check.riverFault(x, "colour A;", 1, 7);
        Check.riverFault(x, "colour Z;", 1, 7);
        Check.riverFault(x, "Colour c;", 1, 0);
        Check.riverFault(x, "colour `;", 1, 7);
        Check.riverFault(x, "colour {;", 1, 7);
        Check.riverFault(x, "colour " + (char) 233 + ";", 1, 7);
    }

    @Says("NUMBERS: 1 to 4 digits;")
    static void termsTokensNumbersHaveOneToFourDigits(Bells x) {
        String[] seven = {"7", "07", "007", "0007"};
        for (String number : seven) {
            Check.riverTaken(x, "reach a " + number + " 0;", 1);
            Check.due("VOL " + number, 7, x.reach(0, 0));
        }
        Check.riverTaken(x, "reach a 9999 0000;", 1);
        Check.due("VOL", 9999, x.reach(0, 0));
        Check.due("SETTLE", 0, x.reach(0, 1));
        Check.riverFault(x, "reach a 00007 0;", 1, 8);
        Check.riverFault(x, "reach a 10000 0;", 1, 8);
        Check.riverFault(x, "reach a 4294967303 0;", 1, 8);
        Check.riverFault(x, "reach a " + "0".repeat(40) + " 0;", 1, 8);
        Check.riverFault(x, "reach a -7 0;", 1, 8);
        Check.riverFault(x, "reach a +7 0;", 1, 8);
        Check.riverFault(x, "reach a /7 0;", 1, 8);
        Check.riverFault(x, "reach a :7 0;", 1, 8);
    }

    @Says("; < = > ( ) .")
    static void termsTokensSigns(Bells x) {
        Check.riverTaken(x, "colour c;", 1);
        Check.sentenceTaken(x, "hour<5", 1);
        Check.sentenceTaken(x, "hour=5", 1);
        Check.sentenceTaken(x, "hour>5", 1);
        Check.sentenceTaken(x, "(hour>5)", 2);
        for (int b = 33; b < 127; b++) {
            boolean isOther = b != ';' && !Character.isLowerCase(b) && !Character.isDigit(b);
            if (isOther) {
                Check.riverFault(x, "colour c" + (char) b, 1, 8);
            }
        }
    }

    @Says("(A WORD, NUMBER goes on as long as small letters and digits do; what is not as told is no TOKEN.)")
    static void termsTokensGoOnOverLettersAndDigits(Bells x) {
        Check.riverFault(x, "colour c5;", 1, 7);
        Check.riverFault(x, "colour 5c;", 1, 7);
        Check.riverFault(x, "colour c5c;", 1, 7);
        Check.riverFault(x, "colour5 c;", 1, 0);
        Check.riverFault(x, "5colour c;", 1, 0);
        Check.riverFault(x, "flood 5a;", 1, 6);
        Check.riverFault(x, "flood a5;", 1, 6);
        Check.riverFault(x, "reach a5 5;", 1, 6);
        Check.riverFault(x, "flow 0 0flow 1 0;", 1, 7);
        Check.riverTaken(x, "reach a 5 5;colour c;guild g a 1 c 1;", 3);
        Check.orderFault(x, "bell 0 0 g1;", 1, 9);
        Check.orderFault(x, "bell 0 0g 1;", 1, 7);
        Check.orderFault(x, "bell0 0 g 1;", 1, 0);
        Check.sentenceFault(x, "works g1", 1, 6);
        Check.sentenceFault(x, "hour<5a", 1, 5);
        Check.sentenceFault(x, "hour5<5", 1, 0);
        Check.sentenceTaken(x, "hour<5 or hour>6", 2);
        Check.sentenceFault(x, "hour<5or hour>6", 1, 5);
    }

    /** Digits and letters whose worth is that of a sign: 00059 is no ';'. */
    @Says("what is not as told is no TOKEN.)")
    static void termsTokensThatAreNoneAreNoSign(Bells x) {
        Check.riverFault(x, "colour c 00059", 1, 9);
        Check.riverFault(x, "colour c a59", 1, 9);
        Check.riverFault(x, "colour c 59", 1, 9);
        Check.riverTaken(x, "reach a 5 5;colour c;guild g a 1 c 1;", 3);
        Check.orderFault(x, "bell 0 0 g 1 00059", 1, 13);
        Check.sentenceFault(x, "hour 00060 5", 1, 5);
        Check.sentenceFault(x, "00040hour<5", 1, 0);
        Check.sentenceFault(x, "00040 hour<5 00041", 1, 0);
        Check.sentenceFault(x, "(hour<5 00041", 1, 8);
    }

    // ---- LINES

    @Says("A RIVER is a text of at most 900 bytes:")
    static void termsRiverOf900Bytes(Bells x) {
        Check.riverTaken(x, Check.padded("colour c;", 900, ""), 1);
        Check.riverTaken(new Bells(), Check.padded("colour c;", 891, "colour d;"), 2);
        Check.riverFault(new Bells(), Check.padded("colour c;", 901, ""), 1, 900);
        Check.riverFault(new Bells(), Check.padded("colour c;", 892, "colour d;"), 1, 900);
        Check.riverFault(new Bells(), Check.padded("colour c;", 940, ""), 1, 900);
        Check.riverFault(new Bells(), Check.padded("", 901, ""), 1, 900);
    }

    @Says("{ LINE ; }. LINE:")
    static void termsRiverLinesEachWithItsEnd(Bells x) {
        Check.riverTaken(x, "", 0);
        Check.riverTaken(x, "colour c;", 1);
        Check.riverTaken(x, "colour c;flood 5;colour d;flow 3 3;", 4);
        Check.riverFault(x, "colour c", 1, 8);
        Check.riverFault(x, "colour c;flood 5", 1, 16);
        Check.riverFault(x, ";", 1, 0);
        Check.riverFault(x, "colour c;;", 1, 9);
        Check.riverFault(x, "colour c colour d;", 1, 9);
        Check.riverFault(x, "c;", 1, 0);
        Check.riverFault(x, "5;", 1, 0);
        Check.riverFault(x, "bell 0 0 g 1;", 1, 0);
        Check.riverFault(x, "hour<5", 1, 0);
    }

    @Says("'reach' NAME VOL SETTLE (1 to 9999 of water; 0 to 500 thousandths an HOUR) |")
    static void termsRiverReach(Bells x) {
        Check.riverTaken(x, "reach a 1 0;reach b 9999 500;", 2);
        Check.due("VOL", 1, x.reach(0, 0));
        Check.due("SETTLE", 0, x.reach(0, 1));
        Check.due("VOL", 9999, x.reach(1, 0));
        Check.due("SETTLE", 500, x.reach(1, 1));
        Check.riverFault(x, "reach a 0 0;", 2, 8);
        Check.riverFault(x, "reach a 10000 0;", 1, 8);
        Check.riverFault(x, "reach a 1 501;", 2, 10);
        Check.riverFault(x, "reach a 1 9999;", 2, 10);
        Check.riverFault(x, "reach 1 0;", 1, 6);
        Check.riverFault(x, "reach a;", 1, 7);
        Check.riverFault(x, "reach a 1;", 1, 9);
        Check.riverFault(x, "reach a 1 0 0;", 1, 12);
        Check.riverFault(x, "reach a b 0;", 1, 8);
    }

    @Says("'colour' NAME |")
    static void termsRiverColour(Bells x) {
        Check.riverTaken(x, "colour c;", 1);
        Check.due("COLOURS", 1, x.count(1));
        Check.riverFault(x, "colour;", 1, 6);
        Check.riverFault(x, "colour 5;", 1, 7);
        Check.riverFault(x, "colour c d;", 1, 9);
        Check.riverFault(x, "colour c 5;", 1, 9);
    }

    @Says("'guild' NAME REACH HOURS { COLOUR N } (HOURS 1 to 24; N 1 to 9999 of stuff an HOUR of work;")
    static void termsRiverGuild(Bells x) {
        lineTaken(x, "guild g a 1 c 1;");
        Check.due("HOURS", 1, x.guild(0, 1));
        Check.due("N", 1, x.guild(0, 2));
        lineTaken(x, "guild g a 24 c 9999;");
        Check.due("HOURS", 24, x.guild(0, 1));
        Check.due("N", 9999, x.guild(0, 2));
        lineFault(x, "guild g a 0 c 1;", 2, 10);
        lineFault(x, "guild g a 25 c 1;", 2, 10);
        lineFault(x, "guild g a 1 c 0;", 2, 14);
        lineFault(x, "guild g a 1 c 10000;", 1, 14);
        lineFault(x, "guild a 1 c 1;", 3, 6);
        lineFault(x, "guild g 1 c 1;", 1, 8);
        lineFault(x, "guild g a c 1;", 1, 10);
        lineFault(x, "guild g a 1 c;", 1, 13);
        lineFault(x, "guild g a 1 c 1 1;", 1, 16);
        lineFault(x, "guild g a 1 1;", 1, 12);
    }

    @Says("each COLOUR once, one at least) |")
    static void termsRiverGuildsColours(Bells x) {
        lineFault(x, "guild g a 1;", 1, 11);
        lineFault(x, "guild g a 1 ;", 1, 12);
        lineFault(x, "guild g a 1 c 1 c 1;", 3, 16);
        lineFault(x, "guild g a 1 c 1 c 0;", 3, 16);
        Check.riverTaken(x, HEAD + "colour d;colour e;colour f;guild g a 1 f 6 e 5 d 4 c 3;", 6);
        for (int c = 0; c < 4; c++) {
            Check.due("N of COLOUR " + c, 3 + c, x.guild(0, 2 + c));
        }
        Check.riverFault(x, HEAD + "colour d;colour e;colour f;guild g a 1 f 6 e 5 d 4 c 3 f 1;", 3, 76);
    }

    @Says("'user' NAME REACH FROM TILL { COLOUR N } (HOURS of each day, 0 to 23 and above FROM to 24;")
    static void termsRiverUsersHours(Bells x) {
        lineTaken(x, "user u a 0 1;");
        Check.due("FROM", 0, x.user(0, 1));
        Check.due("TILL", 1, x.user(0, 2));
        lineTaken(x, "user u a 23 24;");
        Check.due("FROM", 23, x.user(0, 1));
        Check.due("TILL", 24, x.user(0, 2));
        lineTaken(x, "user u a 0 24;");
        lineFault(x, "user u a 24 24;", 2, 9);
        lineFault(x, "user u a 0 0;", 2, 11);
        lineFault(x, "user u a 23 23;", 2, 12);
        lineFault(x, "user u a 9 8;", 2, 11);
        lineFault(x, "user u a 0 25;", 2, 11);
        lineFault(x, "user u a 23 25;", 2, 12);
        lineFault(x, "user u 0 1;", 1, 7);
        lineFault(x, "user u a 0;", 1, 10);
        lineFault(x, "user u a;", 1, 8);
    }

    @Says("N 0 to 9999: the greatest SHADE that is borne; of a COLOUR not told any; each once) |")
    static void termsRiverUsersColours(Bells x) {
        lineTaken(x, "user u a 0 1 c 0;");
        Check.due("borne", 0, x.user(0, 3));
        lineTaken(x, "user u a 0 1 c 9999;");
        Check.due("borne", 9999, x.user(0, 3));
        lineTaken(x, "user u a 0 1;");
        Check.due("not told: any", -1, x.user(0, 3));
        lineFault(x, "user u a 0 1 c 10000;", 1, 15);
        lineFault(x, "user u a 0 1 c;", 1, 14);
        lineFault(x, "user u a 0 1 0;", 1, 13);
        lineFault(x, "user u a 0 1 c 1 c 1;", 3, 17);
        Check.riverTaken(x, HEAD + "colour d;colour e;colour f;user u a 0 1 f 6 e 5 d 4 c 3;", 6);
        for (int c = 0; c < 4; c++) {
            Check.due("borne of COLOUR " + c, 3 + c, x.user(0, 3 + c));
        }
        Check.riverFault(x, HEAD + "colour d;colour e;colour f;user u a 0 1 f 6 e 5 d 4 c 3 c 1;", 3, 77);
    }

    /** What is borne of a COLOUR not told: any SHADE, also the greatest. */
    @Says("of a COLOUR not told any;")
    static void termsRiverUserBearsAnyShadeNotTold(Bells x) {
        Check.riverTaken(x, "reach a 1 0;colour c;guild g a 1 c 9999;user u a 0 24;flow 0 0;", 5);
        x.ring(0, 0, 24);
        Check.due("SHADE", 24 * 999900, x.at(23, 0, 0, 2));
        Check.due("harm", 0, x.harm());
    }

    @Says("'flow' DAY N (0 to 6; 0 to 9999 of water an HOUR; 100 without; each DAY once) |")
    static void termsRiverFlow(Bells x) {
        Check.riverTaken(x, "flow 0 0;flow 6 9999;", 2);
        Check.due("flow of DAY 0", 0, x.flow(0));
        Check.due("flow of DAY 6", 9999, x.flow(6));
        for (int day = 1; day < 6; day++) {
            Check.due("flow without", 100, x.flow(day));
        }
        Check.riverTaken(x, "flow 6 6;flow 5 5;flow 4 4;flow 3 3;flow 2 2;flow 1 1;flow 0 0;", 7);
        for (int day = 0; day < 7; day++) {
            Check.due("flow", day, x.flow(day));
        }
        Check.riverFault(x, "flow 7 5;", 2, 5);
        Check.riverFault(x, "flow 0 10000;", 1, 7);
        Check.riverFault(x, "flow 0;", 1, 6);
        Check.riverFault(x, "flow a 5;", 1, 5);
        Check.riverFault(x, "flow 3 5;flow 3 5;", 3, 14);
        Check.riverFault(x, "flow 3 0;flow 3 5;", 3, 14);
        Check.riverFault(x, "flow 3 100;flow 4 5;flow 3 5;", 3, 25);
    }

    @Says({"'flood' N (1 to 9999; 9999 without) |", "flood once."})
    static void termsRiverFlood(Bells x) {
        Check.riverTaken(x, "flood 1;", 1);
        Check.riverTaken(x, "flood 9999;", 1);
        Check.riverFault(x, "flood 0;", 2, 6);
        Check.riverFault(x, "flood 10000;", 1, 6);
        Check.riverFault(x, "flood;", 1, 5);
        Check.riverFault(x, "flood 5 5;", 1, 8);
        Check.riverFault(x, "flood 9999;flood 5;", 3, 11);
        Check.riverFault(x, "flood 5;colour c;flood 5;", 3, 17);
    }

    /** 100 put in: 50 lie on the bed behind HOUR 0, 99 behind HOUR 23; a flood brings 49 of them up again. */
    @Says("9999 without)")
    static void termsRiverFloodWithout(Bells x) {
        String river = "reach a 100 500;colour c;guild g a 1 c 100;flow 0 0;flow 1 ";
        Check.riverTaken(x, river + "9998;", 5);
        x.ring(0, 0, 1);
        Check.due("PASSED by 9998", 1, x.passed(24, 0));
        Check.riverTaken(x, river + "9999;", 5);
        x.ring(0, 0, 1);
        Check.due("PASSED by 9999", 50, x.passed(24, 0));
        Check.riverTaken(x, river + "9999;flood 9999;", 6);
        x.ring(0, 0, 1);
        Check.due("PASSED by 9999, told", 50, x.passed(24, 0));
        Check.riverTaken(x, river + "1;flood 1;", 6);
        x.ring(0, 0, 1);
        Check.due("bed by a flood of 1", 50 + 25, x.at(24, 0, 0, 1));
    }

    @Says("'pebble' COLOUR N FINE (1 to 9999; 0 to 999; each COLOUR with each N once).")
    static void termsRiverPebble(Bells x) {
        lineTaken(x, "pebble c 1 0;");
        lineTaken(x, "pebble c 9999 999;");
        lineFault(x, "pebble c 0 5;", 2, 9);
        lineFault(x, "pebble c 10000 5;", 1, 9);
        lineFault(x, "pebble c 5 1000;", 2, 11);
        lineFault(x, "pebble c 5;", 1, 10);
        lineFault(x, "pebble c;", 1, 8);
        lineFault(x, "pebble 5 5;", 1, 7);
        lineFault(x, "pebble c 5 5 5;", 1, 13);
        lineFault(x, "pebble c 5 5;pebble c 5 6;", 3, 22);
        lineFault(x, "pebble c 5 5;pebble c 6 5;pebble c 5 5;", 3, 35);
        Check.riverTaken(x, HEAD + "colour d;pebble c 5 1;pebble d 5 1;pebble c 6 1;", 6);
        Check.due("pebbles", 3, x.count(4));
    }

    @Says("NAME: a WORD, none of those told here, in an ORDER or in a SENTENCE;")
    static void termsNameIsNoneOfTheWords(Bells none) {
        for (String word : WORDS) {
            Bells x = new Bells();
            Check.riverFault(x, "reach " + word + " 5 5;", 1, 6);
            Check.riverFault(x, "colour " + word + ";", 1, 7);
            lineFault(x, "guild " + word + " a 1 c 1;", 1, 6);
            lineFault(x, "guild g " + word + " 1 c 1;", 1, 8);
            lineFault(x, "guild g a 1 " + word + " 1;", 1, 12);
            lineFault(x, "user " + word + " a 0 1;", 1, 5);
            lineFault(x, "pebble " + word + " 5 5;", 1, 7);
            String near = word.substring(1) + "q";
            Check.riverTaken(x, "colour " + near + ";", 1);
        }
        Bells x = new Bells();
        Check.riverTaken(x, "colour bells;colour vol;colour settle;colour name;", 4);
        Check.riverTaken(x, "colour from;colour till;colour line;colour hours;", 4);
    }

    @Says("told once.")
    static void termsNameIsToldOnceOverAllSorts(Bells x) {
        Check.riverFault(x, "reach a 5 5;reach a 5 5;", 3, 18);
        Check.riverFault(x, "colour a;colour a;", 3, 16);
        Check.riverFault(x, "colour a;reach a 5 5;", 3, 15);
        lineFault(x, "guild a a 1 c 1;", 3, 6);
        lineFault(x, "guild c a 1 c 1;", 3, 6);
        lineFault(x, "user a a 0 1;", 3, 5);
        lineFault(x, "guild g a 1 c 1;guild g a 1 c 1;", 3, 22);
        lineFault(x, "guild g a 1 c 1;user g a 0 1;", 3, 21);
        lineFault(x, "user u a 0 1;user u a 0 1;", 3, 18);
        lineFault(x, "user u a 0 1;reach u 5 5;", 3, 19);
        Check.riverTaken(x, "reach aaaaaa 5 5;reach aaaaab 5 5;reach baaaaa 5 5;reach aaaaa 5 5;", 4);
    }

    /** 'n' LINES, each with a NAME of its own. */
    private static String many(String ahead, String behind, int n) {
        StringBuilder t = new StringBuilder();
        for (int i = 0; i < n; i++) {
            t.append(ahead).append((char) ('n' + i)).append(behind);
        }
        return t.toString();
    }

    @Says({"10 REACHES (from the spring to the bridge), 4 COLOURS, 6 GUILDS, 6 USERS, 12 pebbles at most,",
        "4 an 11th REACH, a fifth COLOUR, a seventh GUILD, a seventh USER, a 13th pebble (at the LINE's first WORD)."})
    static void termsRiverAtMostOfEachSort(Bells x) {
        String[] texts = {many("reach ", " 5 5;", 10), many("colour ", ";", 4), HEAD + many("guild ", " a 1 c 1;", 6),
            HEAD + many("user ", " a 0 1;", 6)};
        String[] more = {"reach m 5 5;", "colour m;", "guild m a 1 c 1;", "user m a 0 1;"};
        int[] most = {10, 4, 6, 6};
        for (int sort = 0; sort < 4; sort++) {
            Check.riverTaken(x, texts[sort], most[sort] + (sort < 2 ? 0 : 2));
            Check.due("count(" + sort + ")", most[sort], x.count(sort));
            Check.riverFault(x, texts[sort] + " " + more[sort], 4, texts[sort].length() + 1);
            Check.riverFault(x, texts[sort] + more[sort].substring(0, 6), 4, texts[sort].length());
            Check.due("count(" + sort + ") stays", most[sort], x.count(sort));
        }
    }

    @Says({"12 pebbles at most", "a 13th pebble (at the LINE's first WORD)"})
    static void termsRiverTwelvePebbles(Bells x) {
        StringBuilder t = new StringBuilder(HEAD);
        for (int i = 1; i <= 12; i++) {
            t.append("pebble c ").append(i).append(" 1;");
        }
        Check.riverTaken(x, t.toString(), 14);
        Check.due("count(4)", 12, x.count(4));
        Check.riverFault(x, t + "pebble c 13 1;", 4, t.length());
        Check.riverFault(x, t + "\npebble c 1 1;", 4, t.length() + 1);
        Check.riverFault(x, t + "pebble", 4, t.length());
        Check.riverFault(x, t + "pebbl", 1, t.length());
    }

    /** All sorts are full at once: 26 NAMES, and each GUILD, USER and COLOUR keeps to its own. */
    static String fullRiver(String reach, String more) {
        StringBuilder t = new StringBuilder();
        for (char i = 'a'; i < 'k'; i++) {
            t.append("reach r").append(i).append(reach);
        }
        for (char i = 'a'; i < 'e'; i++) {
            t.append("colour c").append(i).append(';');
        }
        for (char i = 'a'; i < 'g'; i++) {
            int n = 10 * (i - 'a' + 1);
            t.append("guild g").append(i).append(" r").append(i).append(' ').append(n / 10).append(" ca ").append(n).append(" cb ").append(n + 1)
                .append(" cc ").append(n + 2).append(" cd ").append(n + 3).append(';');
            t.append("user u").append(i).append(" r").append((char) (i + 4)).append(" 0 24 ca ").append(n).append(" cb ").append(n)
                .append(" cd ").append(n).append(';');
        }
        for (int i = 1; i <= 12; i++) {
            t.append("pebble c").append((char) ('a' + i % 4)).append(' ').append(i).append(' ').append(i).append(';');
        }
        return t + more;
    }

    @Says("10 REACHES (from the spring to the bridge), 4 COLOURS, 6 GUILDS, 6 USERS, 12 pebbles at most")
    static void termsRiverAllSortsFullAtOnce(Bells x) {
        Check.riverTaken(x, fullRiver(" 100 0;", ""), 38);
        int[] counts = {10, 4, 6, 6, 12};
        for (int what = 0; what < 5; what++) {
            Check.due("count(" + what + ")", counts[what], x.count(what));
        }
        for (int g = 0; g < 6; g++) {
            x.ring(20, g, 1);
        }
        for (int g = 0; g < 6; g++) {
            for (int c = 0; c < 4; c++) {
                int n = 10 * (g + 1) + c;
                Check.due("N of GUILD " + g, n, x.guild(g, 2 + c));
                Check.due("borne by USER " + g, c == 2 ? -1 : n - c, x.user(g, 3 + c));
                Check.due("one REACH an HOUR", n, x.at(20, g + 1, c, 0));
                Check.due("to the bridge", n, x.passed(29 - g, c));
            }
        }
        for (int c = 0; c < 4; c++) {
            Check.due("put in", 210 + 6 * c, x.sum(c, 0));
            Check.due("PASSED", 210 + 6 * c, x.sum(c, 1));
        }
        // The COLOURS have pebbles of 4, 8, 12 | 1, 5, 9 | 2, 6, 10 | 3, 7, 11; the SHADES are 10 to 13, then 20 to 23.
        Check.due("FINE", 8 + 9 + 10 + 11, x.fine(20, 1));
        Check.due("FINE", 12 + 9 + 10 + 11, x.fine(20, 2));
        Check.due("FINE in the last REACH", 0, x.fine(167, 9));
        Check.sentenceTaken(x, "passed=" + (4 * 60 + 6) + " or works gf or shade cd rj>62", 3);
        Check.due("said: HOURS 20, 23 and 24", 3, x.said(-1));
    }

    /** What is put in is somewhere: in the water, on a bed or gone under the bridge. */
    @Says("10 REACHES (from the spring to the bridge), 4 COLOURS, 6 GUILDS, 6 USERS")
    static void termsRiverNothingIsLostInAFullOne(Bells x) {
        Check.riverTaken(x, fullRiver(" 300 90;", "flow 1 250;flow 2 0;flow 3 999;flood 250;"), 42);
        for (int k = 0; k < 40; k++) {
            x.ring(4 * k, k % 6, 1 + k % 8);
        }
        for (int c = 0; c < 4; c++) {
            int put = 0;
            for (int k = 0; k < 40; k++) {
                put += (10 * (k % 6 + 1) + c) * (1 + k % 8);
            }
            Check.due("put in", put, x.sum(c, 0));
            Check.due("somewhere", put, x.sum(c, 1) + x.sum(c, 2) + x.sum(c, 3));
            Check.due("some is left on beds", true, x.sum(c, 3) > 0);
            int water = 0;
            int bed = 0;
            for (int r = 0; r < 10; r++) {
                water += x.at(167, r, c, 0);
                bed += x.at(167, r, c, 1);
            }
            Check.due("in the water", water, x.sum(c, 2));
            Check.due("on beds", bed, x.sum(c, 3));
        }
    }

    @Says({"10 REACHES (from the spring to the bridge)", "each sort numbered from 0."})
    static void termsRiverSortsAreNumberedFrom0(Bells x) {
        Check.riverTaken(x, "colour c;reach a 11 1;colour d;reach b 12 2;guild g b 1 d 5;user u b 0 1 d 6;"
            + "guild h a 2 c 7;user v a 0 2 c 8;", 8);
        Check.due("VOL of the first", 11, x.reach(0, 0));
        Check.due("VOL of the second", 12, x.reach(1, 0));
        Check.due("REACH of g", 1, x.guild(0, 0));
        Check.due("REACH of h", 0, x.guild(1, 0));
        Check.due("N of d of g", 5, x.guild(0, 3));
        Check.due("N of c of h", 7, x.guild(1, 2));
        Check.due("REACH of u", 1, x.user(0, 0));
        Check.due("REACH of v", 0, x.user(1, 0));
        Check.due("borne of d by u", 6, x.user(0, 4));
        Check.due("borne of c by v", 8, x.user(1, 3));
        x.ring(0, 1, 1);
        x.ring(5, 0, 1);
        Check.due("into the next REACH", 7, x.at(0, 1, 0, 0));
        Check.due("under the bridge from the last one", 7, x.passed(1, 0));
        Check.due("under the bridge from the last one", 5, x.passed(5, 1));
    }

    // ---- FAULTS

    @Says("FAULTS, the first along the text, of one TOKEN the least:")
    static void termsFaultsTheFirstAlongTheText(Bells x) {
        Check.riverFault(x, "reach a 0 501;", 2, 8);
        Check.riverFault(x, "reach a 5 501;x", 2, 10);
        Check.riverFault(x, "colour c;colour c;reach a 0 0;", 3, 16);
        Check.riverFault(x, "reach a 0 0;colour c;colour c;", 2, 8);
        Check.riverFault(x, many("colour ", ";", 4) + "colour n;", 4, 36);
        Check.riverFault(x, "flow 7 5;flow 7 5;", 2, 5);
        Check.riverFault(x, "flow 6 5;flow 6 x", 3, 14);
        Check.riverFault(x, "flood 5;flood 0;", 3, 8);
        lineFault(x, "guild x y 0 z 0;", 3, 8);
        lineFault(x, "guild g a 0 c 0;", 2, 10);
        lineFault(x, "pebble c 5 5;pebble c 5 1000;", 3, 22);
    }

    @Says("1 no TOKEN, or one that can't come (at it; the end: how many bytes there are;")
    static void termsFault1AtItOrAtTheEnd(Bells x) {
        Check.riverFault(x, "#", 1, 0);
        Check.riverFault(x, " \n #", 1, 3);
        Check.riverFault(x, "colour", 1, 6);
        Check.riverFault(x, "colour \n", 1, 8);
        Check.riverFault(x, "colour c", 1, 8);
        Check.riverFault(x, "colour c  \n", 1, 11);
        Check.riverFault(x, "reach a 5", 1, 9);
        Check.riverFault(x, "reach a 5 5 reach b 5 5;", 1, 12);
        Check.riverFault(new Bells(), Check.padded("colour", 899, ""), 1, 899);
        Check.riverFault(new Bells(), Check.padded("colour", 900, ""), 1, 900);
        lineFault(x, "guild g a 1 c", 1, 13);
        lineFault(x, "user u a", 1, 8);
        lineFault(x, "pebble", 1, 6);
    }

    @Says("900, if there are more and no FAULT is ahead: TOKENS that begin ahead of it are read whole);")
    static void termsFault1At900(Bells none) {
        Check.riverFault(new Bells(), Check.padded("colour c;", 901, ""), 1, 900);
        Check.riverFault(new Bells(), Check.padded("colour c;", 900, "x"), 1, 900);
        Check.riverFault(new Bells(), Check.padded("colour c;", 900, "#"), 1, 900);
        Check.riverFault(new Bells(), Check.padded("colour", 940, ""), 1, 900);
        Check.riverFault(new Bells(), Check.padded("colour c;#", 940, ""), 1, 9);
        Check.riverFault(new Bells(), Check.padded("colour c;", 899, "#x"), 1, 899);
        Check.riverFault(new Bells(), Check.padded("reach a 0", 940, ""), 2, 8);
    }

    @Says("TOKENS that begin ahead of it are read whole")
    static void termsFaultsOfATokenThatBeginsAt899(Bells none) {
        Check.riverFault(new Bells(), Check.padded("colour c;", 899, "colour d;"), 1, 900);
        Check.riverFault(new Bells(), Check.padded("colour c;", 899, "colours;"), 1, 899);
        Check.riverFault(new Bells(), Check.padded("colour c;", 899, "c".repeat(41)), 1, 899);
        Check.riverFault(new Bells(), Check.padded("reach a 5", 899, "500;"), 1, 900);
        Check.riverFault(new Bells(), Check.padded("reach a 5", 899, "501;"), 2, 899);
        Check.riverFault(new Bells(), Check.padded("reach a 5", 899, "00500;"), 1, 899);
        Check.riverFault(new Bells(), Check.padded("colour cc;colour", 899, "cc;"), 3, 899);
        Check.riverFault(new Bells(), Check.padded("colour c;colour", 899, "cc;"), 1, 900);
        Check.riverFault(new Bells(), Check.padded("flood 5;", 899, "flood 5;"), 3, 899);
        Check.riverFault(new Bells(), Check.padded(many("colour ", ";", 4), 899, "colour e;"), 4, 899);
        Check.riverFault(new Bells(), Check.padded(many("colour ", ";", 4), 900, "colour e;"), 1, 900);
        Check.riverFault(new Bells(), Check.padded("colour c", 899, ";;"), 1, 900);
    }

    @Says("2 a NUMBER that is not as told (at it);")
    static void termsFault2AtTheNumber(Bells x) {
        Check.riverFault(x, "reach a  0 5;", 2, 9);
        Check.riverFault(x, "reach a 5  0501;", 2, 11);
        Check.riverFault(x, "flow  0007 5;", 2, 6);
        Check.riverFault(x, "flood 0000;", 2, 6);
        lineFault(x, "guild g a 25", 2, 10);
        lineFault(x, "guild g a 24 c 0000", 2, 15);
        lineFault(x, "user u a 24", 2, 9);
        lineFault(x, "user u a 12 12", 2, 12);
        lineFault(x, "pebble c 0", 2, 9);
        lineFault(x, "pebble c 1 1000", 2, 11);
    }

    @Says("3 a NAME told twice, not told, or of another sort,")
    static void termsFault3AtTheName(Bells x) {
        Check.riverFault(x, "colour c;colour  c", 3, 17);
        Check.riverFault(x, "guild g a", 3, 8);
        lineFault(x, "guild g b 1 c 1;", 3, 8);
        lineFault(x, "guild g c 1 c 1;", 3, 8);
        lineFault(x, "guild g g 1 c 1;", 3, 8);
        lineFault(x, "guild g a 1 d 1;", 3, 12);
        lineFault(x, "guild g a 1 a 1;", 3, 12);
        lineFault(x, "guild g a 1 g 1;", 3, 12);
        lineFault(x, "guild g a 1 c 1;guild h g 1 c 1;", 3, 24);
        lineFault(x, "user u b 0 1;", 3, 7);
        lineFault(x, "user u c 0 1;", 3, 7);
        lineFault(x, "user u u 0 1;", 3, 7);
        lineFault(x, "user u a 0 1 a 1;", 3, 13);
        lineFault(x, "user u a 0 1 d 1;", 3, 13);
        lineFault(x, "pebble d 5 5;", 3, 7);
        lineFault(x, "pebble a 5 5;", 3, 7);
        Check.riverFault(x, "colour c;guild g a 1 c 1;reach a 5 5;", 3, 17);
    }

    @Says("a COLOUR told again in a LINE (at it), a DAY told again, a pebble's N told again (at it), flood told twice (at it);")
    static void termsFault3AtWhatIsToldAgain(Bells x) {
        lineFault(x, "guild g a 1 c 1  c", 3, 17);
        lineFault(x, "user u a 0 1 c 1  c", 3, 18);
        lineTaken(x, "guild g a 1 c 1;");
        Check.riverTaken(x, HEAD + "guild g a 1 c 1;guild h a 1 c 1;user u a 0 1 c 1;user v a 0 1 c 1;", 6);
        Check.riverFault(x, "flow 0 5;flow  0", 3, 15);
        Check.riverFault(x, "flow 6 5;flow 06 5;", 3, 14);
        lineFault(x, "pebble c 5 5;pebble c  5", 3, 23);
        lineFault(x, "pebble c 5 5;pebble c 005 5;", 3, 22);
        Check.riverFault(x, "flood 5; flood", 3, 9);
    }
}
