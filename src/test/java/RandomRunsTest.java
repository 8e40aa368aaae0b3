import java.nio.charset.StandardCharsets;
import java.util.NoSuchElementException;
import java.util.Random;

/** Runs of drawn calls, each answer held against the Model's. Seeds are fixed, so a run is the same each time. */
public final class RandomRunsTest {
    private final Random random;
    private final Bells x = new Bells();
    private final Model m = new Model();
    private final String run;
    private int reaches;
    private int colours;
    private int guilds;
    private int users;

    private RandomRunsTest(int seed) {
        random = new Random(seed);
        run = "run " + seed + ": ";
    }

    public static void main(String[] args) {
        int from = args.length > 0 ? Integer.parseInt(args[0]) : 1;
        int till = args.length > 1 ? Integer.parseInt(args[1]) : 80;
        for (int seed = from; seed <= till; seed++) {
            new RandomRunsTest(seed).play();
        }
        Check.close();
    }

    /** 0 to n - 1; 0, if there are none. */
    private int draw(int n) {
        return random.nextInt(Math.max(1, n));
    }

    private boolean one(int n) {
        return draw(n) == 0;
    }

    private int pick(int... of) {
        return of[draw(of.length)];
    }

    private void play() {
        check("river", river(), 0);
        int rounds = 3 + draw(5);
        for (int i = 0; i < rounds; i++) {
            int before = draw(30);
            if (before < 5) {
                check("river", river(), 0);
            } else if (before < 13) {
                check("order", order(), 0);
            } else if (before < 19) {
                check("sentence", sentence(), 0);
            }
            for (int k = 0; k < 12; k++) {
                ask();
            }
        }
    }

    private void tape(String text) {
        byte[] bytes = text.getBytes(StandardCharsets.ISO_8859_1);
        due("end(0)", m.end(0), x.end(0) ? 1 : 0);
        for (int i = 0; i < bytes.length; i += 20) {
            int[] five = new int[5];
            for (int j = 0; j < 20; j++) {
                five[j / 4] = five[j / 4] << 8 | (i + j < bytes.length ? bytes[i + j] & 255 : draw(256));
            }
            due("feed", m.feed(five), x.feed(five[0], five[1], five[2], five[3], five[4]));
        }
        due("end", m.end(bytes.length), x.end(bytes.length) ? 1 : 0);
    }

    private void check(String call, String text, int hour) {
        tape(text);
        String what = call + " of '" + text + "'";
        switch (call) {
            case "river":
                due(what, m.river(), x.river());
                break;
            case "order":
                due(what, m.order(), x.order());
                break;
            case "sentence":
                due(what, m.sentence(), x.sentence());
                break;
            default:
                due(what, m.days(hour), x.days(hour));
                break;
        }
        due("fault behind " + what, m.fault(), x.fault());
        due("count(7)", m.count(7), x.count(7));
        due("count(5)", m.count(5), x.count(5));
        due("count(6)", m.count(6), x.count(6));
    }

    private void due(String what, long want, long got) {
        Check.due(run + what, want, got);
    }

    // ---- texts

    private String spoil(String text) {
        if (!one(3) || text.isEmpty()) {
            return text;
        }
        int i = draw(text.length());
        int j = Math.min(text.length(), i + 1 + draw(6));
        switch (draw(6)) {
            case 0:
                return text.substring(0, i);
            case 1:
                return text.substring(0, i) + text.substring(j);
            case 2:
                return text.substring(0, j) + text.substring(i);
            case 3:
                return text.substring(0, i) + (char) pick(';', '(', ')', '<', '.', 'a', '0', '9', 0, 200, 9) + text.substring(i);
            case 4: {
                String[] tokens = {" reach ", " bell ", " ra ", " ca ", " ga ", " ua ", " 0 ", " 24 ", " 9999 ", " 25 ", " 10000 ", ";", " or ",
                    " flood 5;", " not ", " toolong "};
                return text.substring(0, i) + tokens[draw(tokens.length)] + text.substring(i);
            }
            default:
                return text + " ".repeat(draw(60) * draw(14));
        }
    }

    private String limited(String text, int most) {
        return text.length() <= most ? text : text.substring(0, most);
    }

    private String river() {
        StringBuilder t = new StringBuilder();
        boolean full = one(6);
        reaches = full ? 10 : 1 + draw(5);
        colours = full ? 4 : 1 + draw(3);
        guilds = full ? 6 : 1 + draw(4);
        users = full ? 6 : 1 + draw(3);
        if (one(6)) {
            leaveOut();
        }
        int most = pick(100, 500, 500, 9999);
        for (int i = 0; i < reaches; i++) {
            t.append("reach r").append((char) ('a' + i)).append(' ').append(1 + draw(most)).append(' ').append(draw(pick(2, 100, 501))).append(gap());
        }
        for (int i = 0; i < colours; i++) {
            t.append("colour c").append((char) ('a' + i)).append(gap());
        }
        for (int i = 0; i < guilds; i++) {
            t.append("guild g").append((char) ('a' + i)).append(" r").append((char) ('a' + draw(reaches))).append(' ').append(1 + draw(pick(3, 12, 24)));
            shares(t, true, 1 + draw(pick(200, 1000, 9999)));
            t.append(gap());
        }
        for (int i = 0; i < users; i++) {
            int start = draw(pick(1, 24));
            t.append("user u").append((char) ('a' + i)).append(" r").append((char) ('a' + draw(reaches))).append(' ').append(start).append(' ')
                .append(start + 1 + draw(24 - start));
            shares(t, false, draw(pick(20, 100, 600)));
            t.append(gap());
        }
        for (int i = colours == 0 ? 0 : draw(5); i > 0; i--) {
            t.append("pebble c").append((char) ('a' + draw(colours))).append(' ').append(1 + draw(200)).append(' ').append(draw(1000)).append(gap());
        }
        for (int d = 0; d < 7; d++) {
            if (one(2)) {
                t.append("flow ").append(d).append(' ').append(draw(pick(50, 300, 300, 10000))).append(gap());
            }
        }
        if (one(2)) {
            t.append("flood ").append(1 + draw(pick(100, 300, 9999))).append(gap());
        }
        return limited(spoil(t.toString()), 940);
    }

    /** Some sort is not told at all, nor what can't be without it. */
    private void leaveOut() {
        switch (draw(4)) {
            case 0:
                reaches = 0;
                guilds = 0;
                users = 0;
                break;
            case 1:
                colours = 0;
                guilds = 0;
                break;
            case 2:
                guilds = 0;
                break;
            default:
                users = 0;
                break;
        }
    }

    private String gap() {
        return one(12) ? " ;\n" : ";";
    }

    private void shares(StringBuilder t, boolean least, int n) {
        int first = draw(colours);
        int many = least ? 1 + draw(colours) : draw(colours + 1);
        for (int i = 0; i < many; i++) {
            t.append(" c").append((char) ('a' + (first + i) % colours)).append(' ').append(i == 0 ? n : 1 + draw(n + 50));
        }
    }

    private String order() {
        StringBuilder t = new StringBuilder();
        for (int i = one(8) ? 36 + draw(8) : draw(8); i > 0; i--) {
            int hours = 1 + draw(pick(3, 10, 24));
            int hour = draw(169 - hours);
            t.append("bell ").append(hour / 24).append(' ').append(hour % 24).append(" g").append((char) ('a' + draw(guilds))).append(' ')
                .append(hours).append(gap());
        }
        return limited(spoil(t.toString()), 940);
    }

    private String sentence() {
        StringBuilder t = new StringBuilder();
        cond(t, one(4) ? 9 : draw(4), one(3) ? 8 : 2);
        return limited(spoil(t.toString()), 940);
    }

    private void cond(StringBuilder t, int depth, int wide) {
        part(t, depth, wide);
        for (int i = draw(wide); i > 0; i--) {
            t.append(one(2) ? " or " : " and ");
            part(t, depth - draw(3), wide);
        }
    }

    private void part(StringBuilder t, int depth, int wide) {
        if (depth > 0 && one(3)) {
            t.append("not ");
            part(t, depth - 1, wide);
        } else if (depth > 0) {
            t.append('(');
            cond(t, depth - 1, Math.max(1, wide - 1));
            t.append(')');
        } else {
            switch (draw(6)) {
                case 0:
                    t.append("works g").append((char) ('a' + draw(guilds)));
                    break;
                case 1:
                    t.append("harmed u").append((char) ('a' + draw(users)));
                    break;
                case 2:
                    t.append("shade c").append((char) ('a' + draw(colours))).append(" r").append((char) ('a' + draw(reaches))).append(sign()).append(draw(200));
                    break;
                case 3:
                    t.append("hour").append(sign()).append(draw(170));
                    break;
                case 4:
                    t.append("day").append(sign()).append(draw(8));
                    break;
                default:
                    t.append("passed").append(sign()).append(draw(100));
                    break;
            }
        }
    }

    private char sign() {
        return (char) pick('<', '=', '>');
    }

    // ---- calls

    /** Mostly 0 to n - 1, at times just beside. */
    private int near(int n) {
        return one(12) ? pick(-2, -1, n, n + 1, Integer.MAX_VALUE, Integer.MIN_VALUE) : draw(Math.max(1, n));
    }

    private interface Throwing {
        int answer();
    }

    private long got(Throwing call) {
        try {
            return call.answer();
        } catch (NoSuchElementException e) {
            return Model.THROWS;
        }
    }

    private void ask() {
        int a = near(168);
        int r = near(reaches);
        int c = near(colours);
        int g = near(guilds);
        int u = near(users);
        switch (draw(34)) {
            case 0:
                told(r, g, u);
                break;
            case 1: case 2: {
                int hours = near(25);
                due("ring(" + a + ", " + g + ", " + hours + ")", m.ring(a, g, hours), x.ring(a, g, hours));
                break;
            }
            case 3:
                due("undo()", m.undo(), x.undo());
                break;
            case 4: {
                int k = near((int) m.count(5));
                int what = near(3);
                due("bell(" + k + ", " + what + ")", m.bell(k, what), got(() -> x.bell(k, what)));
                break;
            }
            case 5: case 6: case 7: {
                int what = near(3);
                due("at(" + a + ", " + r + ", " + c + ", " + what + ")", m.at(a, r, c, what), x.at(a, r, c, what));
                break;
            }
            case 8:
                due("passed(" + a + ", " + c + ")", m.passed(a, c), x.passed(a, c));
                break;
            case 9: case 10: {
                int what = near(4);
                due("sum(" + c + ", " + what + ")", m.sum(c, what), x.sum(c, what));
                break;
            }
            case 11: case 12:
                due("fine(" + a + ", " + r + ")", m.fine(a, r), x.fine(a, r));
                break;
            case 13: case 14: {
                int k = one(2) ? -1 : near(60);
                due("harmed(" + u + ", " + k + ")", m.harmed(u, k), x.harmed(u, k));
                break;
            }
            case 15:
                due("harm()", m.harm(), x.harm());
                break;
            case 16:
                due("blame(" + g + ", " + u + ")", m.blame(g, u), x.blame(g, u));
                break;
            case 17:
                due("duty(" + g + ")", m.duty(g), x.duty(g));
                break;
            case 18: {
                int n = one(6) ? pick(0, 1, 9999, 10000, -5) : 1 + draw(9999);
                int what = near(3);
                due("pulse(" + r + ", " + c + ", " + n + ", " + what + ")", m.pulse(r, c, n, what), x.pulse(r, c, n, what));
                break;
            }
            case 19: case 20:
                days();
                break;
            case 21:
                due("exchange()", m.exchange(), x.exchange());
                due("exchanges()", m.exchanges(), x.exchanges());
                break;
            case 22: case 23: {
                int k = near((int) m.count(5));
                due("late(" + k + ")", m.late(k), x.late(k));
                break;
            }
            case 24:
                see();
                break;
            case 25:
                dream();
                break;
            case 26: {
                int what = near(3);
                due("led(" + what + ")", m.led(what), x.led(what));
                break;
            }
            case 27: {
                int v = one(6) ? pick(0, 1, 9999, 10000, -5) : 1 + draw(1000);
                due("dam(" + r + ", " + v + ")", m.dam(r, v), x.dam(r, v));
                break;
            }
            case 28: {
                int weeks = one(6) ? pick(0, 1, 20, 21, -5) : 1 + draw(8);
                int seed = random.nextInt();
                due("rain(" + weeks + ", " + seed + ")", m.rain(weeks, seed), x.rain(weeks, seed));
                break;
            }
            case 29: case 30: {
                int k = one(2) ? -1 : near(100);
                due("said(" + k + ")", m.said(k), x.said(k));
                break;
            }
            case 31: {
                int k = near(2);
                due("image(" + k + ")", m.image(k), x.image(k) ? 1 : 0);
                break;
            }
            case 32: {
                int k = near(2);
                due("restore(" + k + ")", m.restore(k), x.restore(k) ? 1 : 0);
                break;
            }
            default: {
                int what = near(8);
                due("count(" + what + ")", m.count(what), x.count(what));
                break;
            }
        }
    }

    private void told(int r, int g, int u) {
        int what = near(7);
        int day = near(7);
        due("reach(" + r + ", " + what + ")", m.reach(r, what), got(() -> x.reach(r, what)));
        due("guild(" + g + ", " + what + ")", m.guild(g, what), got(() -> x.guild(g, what)));
        due("user(" + u + ", " + what + ")", m.user(u, what), got(() -> x.user(u, what)));
        due("flow(" + day + ")", m.flow(day), got(() -> x.flow(day)));
    }

    private void days() {
        StringBuilder t = new StringBuilder();
        for (int i = one(10) ? pick(0, 3, 4, 5) : 1 + draw(2); i > 0; i--) {
            t.append((char) (one(20) ? pick(6, 127, 128, 255) : draw(guilds)));
        }
        check("days", t.toString(), one(20) ? pick(-1, 24, 23) : draw(24));
        for (int i = -1; i < 5; i++) {
            due("dayOf(" + i + ")", m.dayOf(i), x.dayOf(i));
        }
    }

    private void see() {
        int hour = near(168);
        int c = near(colours);
        int much = one(8) ? pick(-1, 0, Integer.MAX_VALUE) : (int) Math.max(0, m.passed(hour, c));
        due("see(" + hour + ", " + c + ", " + much + ")", m.see(hour, c, much), x.see(hour, c, much));
    }

    /** Sights of a work that is undone then, and who is found by them. */
    private void dream() {
        if (!one(4)) {
            return;
        }
        int hours = 1 + draw(6);
        int hour = draw(169 - hours);
        int g = draw(guilds);
        long rung = m.ring(hour, g, hours);
        due("ring(" + hour + ", " + g + ", " + hours + ")", rung, x.ring(hour, g, hours));
        for (int i = 1 + draw(10); i > 0 && rung >= 0; i--) {
            int seenIn = Math.min(167, hour + draw(20));
            int c = draw(colours);
            int much = (int) m.passed(seenIn, c);
            due("see(" + seenIn + ", " + c + ", " + much + ")", m.see(seenIn, c, much), x.see(seenIn, c, much));
        }
        if (rung >= 0) {
            due("undo()", m.undo(), x.undo());
        }
        due("night()", m.night(), x.night());
        for (int what = -1; what < 4; what++) {
            due("led(" + what + ")", m.led(what), x.led(what));
        }
    }
}
