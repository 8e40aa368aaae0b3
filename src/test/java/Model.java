import java.util.ArrayList;
import java.util.Arrays;
import java.util.HashMap;
import java.util.HashSet;
import java.util.List;
import java.util.Map;
import java.util.Set;

/**
 * The document once more, written slowly and without any saving of work, to hold the class against.
 * Every question works out the whole week anew.
 */
final class Model {
    static final long THROWS = Long.MIN_VALUE;
    private static final Set<String> WORDS = new HashSet<>(Arrays.asList("reach", "colour", "guild", "user", "flow",
        "flood", "pebble", "bell", "or", "and", "not", "works", "harmed", "shade", "hour", "day", "passed"));

    /** A FAULT, thrown through the readers. */
    private static final class Fault extends RuntimeException {
        private static final long serialVersionUID = 1L;
        final int kind;
        final int place;

        Fault(int kind, int place) {
            this.kind = kind;
            this.place = place;
        }
    }

    private static final class Token {
        String text;
        int place;

        boolean isWord() {
            return text.matches("[a-z]{1,6}");
        }

        boolean isName() {
            return isWord() && !WORDS.contains(text);
        }

        boolean isNumber() {
            return text.matches("[0-9]{1,4}");
        }
    }

    private static final class State {
        List<int[]> reaches = new ArrayList<>();
        int colours;
        List<int[]> guilds = new ArrayList<>();
        List<int[]> users = new ArrayList<>();
        List<int[]> pebbles = new ArrayList<>();
        Map<Integer, Integer> flows = new HashMap<>();
        Integer flood;
        Map<String, int[]> names = new HashMap<>();
        List<int[]> bells = new ArrayList<>();
        List<int[]> sights = new ArrayList<>();
        List<Token> sentence;
        int ones;

        State copy() {
            State s = new State();
            s.reaches.addAll(reaches);
            s.colours = colours;
            s.guilds.addAll(guilds);
            s.users.addAll(users);
            s.pebbles.addAll(pebbles);
            s.flows.putAll(flows);
            s.flood = flood;
            s.names.putAll(names);
            for (int[] b : bells) {
                s.bells.add(b.clone());
            }
            s.sights.addAll(sights);
            s.sentence = sentence;
            s.ones = ones;
            return s;
        }
    }

    /** A whole week. */
    private static final class Run {
        long[][][] water = new long[168][10][4];
        long[][][] bed = new long[168][10][4];
        long[][][] shade = new long[168][10][4];
        long[][] passed = new long[168][4];
        boolean[][] works = new boolean[168][6];
        boolean[][] harmed = new boolean[168][6];
        long[] put = new long[4];
        int harm;
    }

    private byte[] tape = new byte[0];
    private State s = new State();
    private final State[] kept = new State[2];
    private int fault;
    private int[] bestDays = {};
    private int exchanged;
    private int[] led = {-1, -1, -1};

    // ---- the tape

    long feed(int... five) {
        if (tape.length + 20 > 940) {
            return -1;
        }
        byte[] longer = Arrays.copyOf(tape, tape.length + 20);
        for (int i = 0; i < 20; i++) {
            longer[tape.length + i] = (byte) (five[i / 4] >> 8 * (3 - i % 4));
        }
        tape = longer;
        return tape.length;
    }

    long end(int n) {
        if (n < 0 || n > tape.length) {
            return 0;
        }
        tape = Arrays.copyOf(tape, n);
        return 1;
    }

    /** All TOKENS that begin ahead of the limit; what is none ends the list; behind the last one the end. */
    private List<Token> tokens(int limit) {
        List<Token> list = new ArrayList<>();
        int i = 0;
        while (true) {
            while (i < tape.length && (tape[i] == 32 || tape[i] == 10)) {
                i++;
            }
            Token t = new Token();
            if (i >= tape.length || i >= limit) {
                t.text = tape.length > limit ? "TOO LONG" : "";
                t.place = Math.min(tape.length, limit);
                list.add(t);
                return list;
            }
            int j = i;
            while (j < tape.length && Character.toString((char) (tape[j] & 255)).matches("[a-z0-9]")) {
                j++;
            }
            j = Math.max(j, i + 1);
            StringBuilder text = new StringBuilder();
            for (int k = i; k < j; k++) {
                text.append((char) (tape[k] & 255));
            }
            t.text = text.toString();
            t.place = i;
            list.add(t);
            i = j;
        }
    }

    private List<Token> in;
    private int at;

    private Token peek() {
        return in.get(at);
    }

    private boolean comes(String text) {
        return peek().text.equals(text);
    }

    private void expect(String text) {
        if (!comes(text)) {
            throw new Fault(1, peek().place);
        }
        at++;
    }

    private int number(int least, int most) {
        Token t = peek();
        if (!t.isNumber()) {
            throw new Fault(1, t.place);
        }
        int n = Integer.parseInt(t.text);
        if (n < least || n > most) {
            throw new Fault(2, t.place);
        }
        at++;
        return n;
    }

    private void newName(State to, int sort, int number) {
        Token t = peek();
        if (!t.isName()) {
            throw new Fault(1, t.place);
        }
        if (to.names.containsKey(t.text)) {
            throw new Fault(3, t.place);
        }
        to.names.put(t.text, new int[] {sort, number});
        at++;
    }

    private int oldName(State to, int sort) {
        Token t = peek();
        if (!t.isName()) {
            throw new Fault(1, t.place);
        }
        int[] told = to.names.get(t.text);
        if (told == null || told[0] != sort) {
            throw new Fault(3, t.place);
        }
        at++;
        return told[1];
    }

    // ---- texts

    long river() {
        in = tokens(900);
        at = 0;
        tape = new byte[0];
        State draft = new State();
        int lines = 0;
        try {
            while (!comes("")) {
                line(draft);
                expect(";");
                lines++;
            }
        } catch (Fault f) {
            fault = f.kind;
            return -1 - f.place;
        }
        s = draft;
        fault = 0;
        return lines;
    }

    private void full(boolean isFull) {
        if (isFull) {
            throw new Fault(4, peek().place);
        }
        at++;
    }

    private void line(State d) {
        if (comes("reach")) {
            full(d.reaches.size() == 10);
            newName(d, 0, d.reaches.size());
            int vol = number(1, 9999);
            d.reaches.add(new int[] {vol, number(0, 500)});
        } else if (comes("colour")) {
            full(d.colours == 4);
            newName(d, 1, d.colours);
            d.colours++;
        } else if (comes("guild")) {
            full(d.guilds.size() == 6);
            newName(d, 2, d.guilds.size());
            int[] g = new int[6];
            g[0] = oldName(d, 0);
            g[1] = number(1, 24);
            if (comes(";")) {
                throw new Fault(1, peek().place);
            }
            shares(d, g, 2, 1);
            d.guilds.add(g);
        } else if (comes("user")) {
            full(d.users.size() == 6);
            newName(d, 3, d.users.size());
            int[] u = {0, 0, 0, -1, -1, -1, -1};
            u[0] = oldName(d, 0);
            u[1] = number(0, 23);
            u[2] = number(u[1] + 1, 24);
            shares(d, u, 3, 0);
            d.users.add(u);
        } else if (comes("flow")) {
            at++;
            int place = peek().place;
            int day = number(0, 6);
            if (d.flows.containsKey(day)) {
                throw new Fault(3, place);
            }
            d.flows.put(day, number(0, 9999));
        } else if (comes("flood")) {
            if (d.flood != null) {
                throw new Fault(3, peek().place);
            }
            at++;
            d.flood = number(1, 9999);
        } else if (comes("pebble")) {
            full(d.pebbles.size() == 12);
            int c = oldName(d, 1);
            int place = peek().place;
            int n = number(1, 9999);
            for (int[] p : d.pebbles) {
                if (p[0] == c && p[1] == n) {
                    throw new Fault(3, place);
                }
            }
            d.pebbles.add(new int[] {c, n, number(0, 999)});
        } else {
            throw new Fault(1, peek().place);
        }
    }

    private void shares(State d, int[] row, int from, int least) {
        Set<Integer> told = new HashSet<>();
        while (!comes(";")) {
            int place = peek().place;
            int c = oldName(d, 1);
            if (!told.add(c)) {
                throw new Fault(3, place);
            }
            row[from + c] = number(least, 9999);
        }
    }

    long order() {
        in = tokens(600);
        at = 0;
        tape = new byte[0];
        List<int[]> draft = new ArrayList<>();
        try {
            while (!comes("")) {
                if (!comes("bell")) {
                    throw new Fault(1, peek().place);
                }
                full(draft.size() == 40);
                int hour = 24 * number(0, 6);
                hour += number(0, 23);
                int g = oldName(s, 2);
                int place = peek().place;
                int hours = number(1, 24);
                if (hour + hours > 168) {
                    throw new Fault(2, place);
                }
                expect(";");
                draft.add(new int[] {hour, g, hours});
            }
        } catch (Fault f) {
            fault = f.kind;
            return -1 - f.place;
        }
        s.bells = draft;
        fault = 0;
        return draft.size();
    }

    private int onesRead;

    long sentence() {
        in = tokens(200);
        at = 0;
        tape = new byte[0];
        onesRead = 0;
        try {
            cond(null, 0, 0);
            if (!comes("")) {
                throw new Fault(1, peek().place);
            }
        } catch (Fault f) {
            fault = f.kind;
            return -1 - f.place;
        }
        s.sentence = in;
        s.ones = onesRead;
        fault = 0;
        return onesRead;
    }

    /** Reads, and says whether it is so in an HOUR of a run, if there is one. */
    private boolean cond(Run run, int hour, int depth) {
        boolean is = all(run, hour, depth);
        while (comes("or")) {
            at++;
            is |= all(run, hour, depth);
        }
        return is;
    }

    private boolean all(Run run, int hour, int depth) {
        boolean is = one(run, hour, depth);
        while (comes("and")) {
            at++;
            is &= one(run, hour, depth);
        }
        return is;
    }

    private boolean one(Run run, int hour, int depth) {
        Token t = peek();
        if (!Arrays.asList("not", "(", "works", "harmed", "shade", "hour", "day", "passed").contains(t.text)) {
            throw new Fault(1, t.place);
        }
        onesRead++;
        if (depth + 1 > 8 || onesRead > 20 && run == null) {
            throw new Fault(4, t.place);
        }
        at++;
        switch (t.text) {
            case "not":
                return !one(run, hour, depth + 1);
            case "(": {
                boolean is = cond(run, hour, depth + 1);
                expect(")");
                return is;
            }
            case "works": {
                int g = oldName(s, 2);
                return run != null && run.works[hour][g];
            }
            case "harmed": {
                int u = oldName(s, 3);
                return run != null && run.harmed[hour][u];
            }
            case "shade": {
                int c = oldName(s, 1);
                int r = oldName(s, 0);
                return compare(run == null ? 0 : run.shade[hour][r][c]);
            }
            case "hour":
                return compare(hour);
            case "day":
                return compare(hour / 24);
            default:
                return compare(run == null ? 0 : Arrays.stream(run.passed[hour]).sum());
        }
    }

    private boolean compare(long value) {
        Token sign = peek();
        if (!sign.text.matches("[<=>]")) {
            throw new Fault(1, sign.place);
        }
        at++;
        int n = number(0, 9999);
        return sign.text.equals("<") ? value < n : sign.text.equals("=") ? value == n : value > n;
    }

    long fault() {
        return fault;
    }

    // ---- what was told

    private static boolean in(int i, int size) {
        return i >= 0 && i < size;
    }

    private boolean hour(int h) {
        return in(h, 168);
    }

    private boolean reachIs(int r) {
        return in(r, s.reaches.size());
    }

    private boolean colourIs(int c) {
        return in(c, s.colours);
    }

    private boolean guildIs(int g) {
        return in(g, s.guilds.size());
    }

    private boolean userIs(int u) {
        return in(u, s.users.size());
    }

    long reach(int r, int what) {
        return reachIs(r) && in(what, 2) ? s.reaches.get(r)[what] : THROWS;
    }

    long guild(int g, int what) {
        return guildIs(g) && in(what, 2 + s.colours) ? s.guilds.get(g)[what] : THROWS;
    }

    long user(int u, int what) {
        return userIs(u) && in(what, 3 + s.colours) ? s.users.get(u)[what] : THROWS;
    }

    long flow(int day) {
        return in(day, 7) ? flowOn(day) : THROWS;
    }

    private int flowOn(int day) {
        return s.flows.getOrDefault(day, 100);
    }

    long bell(int k, int what) {
        return in(k, s.bells.size()) && in(what, 3) ? s.bells.get(k)[what] : THROWS;
    }

    long ring(int h, int g, int hours) {
        if (s.bells.size() == 40 || !hour(h) || !guildIs(g) || hours < 1 || hours > 24 || h + hours > 168) {
            return -1;
        }
        s.bells.add(new int[] {h, g, hours});
        return s.bells.size() - 1;
    }

    long undo() {
        if (s.bells.isEmpty()) {
            return -1;
        }
        s.bells.remove(s.bells.size() - 1);
        return s.bells.size();
    }

    long count(int what) {
        int[] all = {s.reaches.size(), s.colours, s.guilds.size(), s.users.size(), s.pebbles.size(), s.bells.size(),
            s.sights.size(), tape.length};
        return in(what, 8) ? all[what] : -1;
    }

    // ---- the week

    private int[] toldFlows() {
        int[] flows = new int[7];
        for (int d = 0; d < 7; d++) {
            flows[d] = flowOn(d);
        }
        return flows;
    }

    private int[] toldVols() {
        return s.reaches.stream().mapToInt(r -> r[0]).toArray();
    }

    private Run run(List<int[]> bells) {
        return run(bells, toldVols(), toldFlows(), null);
    }

    private Run run(List<int[]> bells, int[] vols, int[] flows, int[] pulse) {
        Run run = new Run();
        int reaches = s.reaches.size();
        long[][] water = new long[10][4];
        long[][] bed = new long[10][4];
        if (pulse != null) {
            water[pulse[0]][pulse[1]] = pulse[2];
        }
        for (int h = 0; h < 168; h++) {
            for (int[] b : bells) {
                if (h >= b[0] && h < b[0] + b[2]) {
                    run.works[h][b[1]] = true;
                }
            }
            for (int g = 0; g < s.guilds.size(); g++) {
                for (int c = 0; run.works[h][g] && c < 4; c++) {
                    water[s.guilds.get(g)[0]][c] += s.guilds.get(g)[2 + c];
                    run.put[c] += s.guilds.get(g)[2 + c];
                }
            }
            int flow = flows[h / 24];
            if (flow >= (s.flood == null ? 9999 : s.flood)) {
                for (int r = 0; r < reaches; r++) {
                    for (int c = 0; c < 4; c++) {
                        long half = bed[r][c] / 2;
                        water[r][c] += half;
                        bed[r][c] -= half;
                    }
                }
            }
            for (int r = reaches - 1; r >= 0; r--) {
                for (int c = 0; c < 4; c++) {
                    long goes = water[r][c] * Math.min(flow, vols[r]) / vols[r];
                    water[r][c] -= goes;
                    if (r == reaches - 1) {
                        run.passed[h][c] = goes;
                    } else {
                        water[r + 1][c] += goes;
                    }
                }
            }
            for (int r = 0; r < reaches; r++) {
                for (int c = 0; c < 4; c++) {
                    long sinks = water[r][c] * s.reaches.get(r)[1] / 1000;
                    water[r][c] -= sinks;
                    bed[r][c] += sinks;
                    run.water[h][r][c] = water[r][c];
                    run.bed[h][r][c] = bed[r][c];
                    run.shade[h][r][c] = water[r][c] * 100 / vols[r];
                }
            }
            for (int u = 0; u < s.users.size(); u++) {
                int[] user = s.users.get(u);
                for (int c = 0; c < 4; c++) {
                    boolean his = h % 24 >= user[1] && h % 24 < user[2];
                    run.harmed[h][u] |= his && user[3 + c] >= 0 && run.shade[h][user[0]][c] > user[3 + c];
                }
                run.harm += run.harmed[h][u] ? 1 : 0;
            }
        }
        return run;
    }

    long at(int h, int r, int c, int what) {
        if (!hour(h) || !reachIs(r) || !colourIs(c) || !in(what, 3)) {
            return -1;
        }
        Run run = run(s.bells);
        return what == 0 ? run.water[h][r][c] : what == 1 ? run.bed[h][r][c] : run.shade[h][r][c];
    }

    long passed(int h, int c) {
        return hour(h) && colourIs(c) ? run(s.bells).passed[h][c] : -1;
    }

    long sum(int c, int what) {
        if (!colourIs(c) || !in(what, 4)) {
            return -1;
        }
        Run run = run(s.bells);
        long all = 0;
        for (int h = 0; what == 1 && h < 168; h++) {
            all += run.passed[h][c];
        }
        for (int r = 0; what > 1 && r < s.reaches.size(); r++) {
            all += what == 2 ? run.water[167][r][c] : run.bed[167][r][c];
        }
        return what == 0 ? run.put[c] : all;
    }

    long fine(int h, int r) {
        if (!hour(h) || !reachIs(r)) {
            return -1;
        }
        Run run = run(s.bells);
        int fine = 0;
        for (int c = 0; c < s.colours; c++) {
            int[] best = {c, 0, 0};
            for (int[] p : s.pebbles) {
                if (p[0] == c && p[1] <= run.shade[h][r][c] && p[1] >= best[1]) {
                    best = p;
                }
            }
            fine += best[2];
        }
        return fine;
    }

    private static long nth(List<Integer> list, int k) {
        return k == -1 ? list.size() : in(k, list.size()) ? list.get(k) : -1;
    }

    long harmed(int u, int k) {
        if (!userIs(u)) {
            return -1;
        }
        Run run = run(s.bells);
        List<Integer> hours = new ArrayList<>();
        for (int h = 0; h < 168; h++) {
            if (run.harmed[h][u]) {
                hours.add(h);
            }
        }
        return nth(hours, k);
    }

    long harm() {
        return run(s.bells).harm;
    }

    long blame(int g, int u) {
        if (!guildIs(g) || !userIs(u)) {
            return -1;
        }
        List<int[]> others = new ArrayList<>(s.bells);
        others.removeIf(b -> b[1] == g);
        Run with = run(s.bells);
        Run without = run(others);
        int hours = 0;
        for (int h = 0; h < 168; h++) {
            hours += with.harmed[h][u] && !without.harmed[h][u] ? 1 : 0;
        }
        return hours;
    }

    long duty(int g) {
        if (!guildIs(g)) {
            return -1;
        }
        Set<Integer> hours = new HashSet<>();
        for (int[] b : s.bells) {
            for (int h = b[0]; b[1] == g && h < b[0] + b[2]; h++) {
                hours.add(h);
            }
        }
        return Math.max(0, s.guilds.get(g)[1] - hours.size());
    }

    long pulse(int r, int c, int n, int what) {
        if (!reachIs(r) || !colourIs(c) || n < 1 || n > 9999 || !in(what, 3)) {
            return -2;
        }
        Run run = run(new ArrayList<>(), toldVols(), toldFlows(), new int[] {r, c, n});
        long all = 0;
        long most = 0;
        int first = -1;
        int fullest = -1;
        for (int h = 167; h >= 0; h--) {
            long p = run.passed[h][c];
            all += p;
            if (p > 0) {
                first = h;
            }
            if (p > 0 && p >= most) {
                most = p;
                fullest = h;
            }
        }
        return what == 0 ? first : what == 1 ? fullest : all;
    }

    // ---- what might be

    long days(int hour) {
        byte[] told = tape;
        tape = new byte[0];
        Set<Byte> unlike = new HashSet<>();
        for (byte b : told) {
            if (!guildIs(b & 255) || !unlike.add(b)) {
                return -2;
            }
        }
        if (!in(hour, 24) || told.length < 1 || told.length > 4 || s.bells.size() + told.length > 40) {
            return -2;
        }
        int best = -1;
        int many = (int) Math.pow(7, told.length);
        for (int code = 0; code < many; code++) {
            int[] days = new int[told.length];
            int left = code;
            for (int i = told.length - 1; i >= 0; i--) {
                days[i] = left % 7;
                left /= 7;
            }
            List<int[]> bells = new ArrayList<>(s.bells);
            boolean can = true;
            for (int i = 0; i < told.length; i++) {
                int hours = s.guilds.get(told[i])[1];
                bells.add(new int[] {24 * days[i] + hour, told[i], hours});
                can &= 24 * days[i] + hour + hours <= 168;
            }
            if (can) {
                int harm = run(bells).harm;
                if (best < 0 || harm < best) {
                    best = harm;
                    bestDays = days;
                }
            }
        }
        return best;
    }

    long dayOf(int i) {
        return in(i, bestDays.length) ? bestDays[i] : -1;
    }

    long exchange() {
        exchanged = 0;
        while (exchanged < 50 && exchangeOnce()) {
            exchanged++;
        }
        return harm();
    }

    private boolean exchangeOnce() {
        int before = run(s.bells).harm;
        for (int a = 0; a < s.bells.size(); a++) {
            for (int b = a + 1; b < s.bells.size(); b++) {
                int[] one = s.bells.get(a);
                int[] other = s.bells.get(b);
                if (one[1] == other[1]) {
                    continue;
                }
                List<int[]> then = new ArrayList<>(s.bells);
                then.set(a, new int[] {one[0], other[1], one[2]});
                then.set(b, new int[] {other[0], one[1], other[2]});
                if (run(then).harm < before) {
                    s.bells = then;
                    return true;
                }
            }
        }
        return false;
    }

    long exchanges() {
        return exchanged;
    }

    long late(int k) {
        if (!in(k, s.bells.size())) {
            return -1;
        }
        int[] b = s.bells.get(k);
        int before = run(s.bells).harm;
        for (int later = 1; later <= 24; later++) {
            List<int[]> then = new ArrayList<>(s.bells);
            then.set(k, new int[] {b[0] + later, b[1], b[2]});
            if (b[0] + later + b[2] > 168 || run(then).harm > before) {
                return later - 1;
            }
        }
        return 24;
    }

    long see(int h, int c, int much) {
        if (s.sights.size() == 20 || !hour(h) || !colourIs(c) || much < 0) {
            return -1;
        }
        s.sights.add(new int[] {h, c, much});
        return s.sights.size() - 1;
    }

    long night() {
        List<int[]> found = new ArrayList<>();
        for (int g = 0; g < s.guilds.size(); g++) {
            for (int h = 0; h < 168; h++) {
                for (int hours = 1; hours <= 6 && h + hours <= 168; hours++) {
                    List<int[]> bells = new ArrayList<>(s.bells);
                    bells.add(new int[] {h, g, hours});
                    Run run = run(bells);
                    if (s.sights.stream().allMatch(x -> run.passed[x[0]][x[1]] == x[2])) {
                        found.add(new int[] {g, h, hours});
                    }
                }
            }
        }
        led = found.size() == 1 ? found.get(0) : new int[] {-1, -1, -1};
        return found.size();
    }

    long led(int what) {
        return in(what, 3) ? led[what] : -1;
    }

    long dam(int r, int v) {
        if (!reachIs(r) || v < 1 || v > 9999) {
            return -1;
        }
        int[] vols = toldVols();
        vols[r] = v;
        return run(s.bells, vols, toldFlows(), null).harm;
    }

    long rain(int weeks, int seed) {
        if (weeks < 1 || weeks > 20) {
            return -1;
        }
        int x = seed;
        int many = 0;
        for (int w = 0; w < weeks; w++) {
            int[] flows = toldFlows();
            for (int d = 0; d < 7; d++) {
                x = x * 1103515245 + 12345;
                int draw = (x >>> 8) % 5;
                if (draw == 0) {
                    flows[d] = flows[d] / 2;
                } else if (draw == 4) {
                    flows[d] = Math.min(9999, flows[d] * 3);
                }
            }
            many += run(s.bells, toldVols(), flows, null).harm > 0 ? 1 : 0;
        }
        return many;
    }

    long said(int k) {
        if (s.sentence == null) {
            return -1;
        }
        Run run = run(s.bells);
        List<Integer> hours = new ArrayList<>();
        for (int h = 0; h < 168; h++) {
            in = s.sentence;
            at = 0;
            if (cond(run, h, 0)) {
                hours.add(h);
            }
        }
        return nth(hours, k);
    }

    long image(int k) {
        if (!in(k, 2)) {
            return 0;
        }
        kept[k] = s.copy();
        return 1;
    }

    long restore(int k) {
        if (!in(k, 2) || kept[k] == null) {
            return 0;
        }
        s = kept[k].copy();
        return 1;
    }
}
