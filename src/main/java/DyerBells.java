import java.util.NoSuchElementException;

/** A river through a dyers' quarter: its text, a week of bells, and what may be asked of it. */
public final class DyerBells {
    public static final int NONE = -1;

    private static final int NOT_AS_TOLD = -2;
    private static final int HOURS = 168;
    private static final int DAY_HOURS = 24;
    private static final int DAYS = 7;
    private static final int MOST_REACHES = 10;
    private static final int MOST_COLOURS = 4;
    private static final int MOST_GUILDS = 6;
    private static final int MOST_USERS = 6;
    private static final int MOST_PEBBLES = 12;
    private static final int MOST_BELLS = 40;
    private static final int MOST_SIGHTS = 20;
    private static final int MOST_NUMBER = 9999;
    private static final int MOST_CHOSEN = 4;
    private static final int MOST_EXCHANGES = 50;
    private static final int MOST_LATE = 24;
    private static final int MOST_NIGHT = 6;
    private static final int MOST_WEEKS = 20;
    private static final int CELLS = MOST_REACHES * MOST_COLOURS;
    private static final int MORE_THAN_ANY_HARM = HOURS * MOST_USERS + 1;

    private static final int TAPE_BYTES = 940;
    private static final int FEED_BYTES = 20;
    private static final int RIVER_BYTES = 900;
    private static final int ORDER_BYTES = 600;
    private static final int SENTENCE_BYTES = 200;

    private static final int CANT_COME = 1;
    private static final int OUT_OF_BOUNDS = 2;
    private static final int WRONG_NAME = 3;
    private static final int TOO_MANY = 4;

    private final Tape tape = new Tape();
    private int latestFault;

    private final Scene now = new Scene();
    private final Scene draft = new Scene();
    private final Scene keptFirst = new Scene();
    private final Scene keptSecond = new Scene();
    private boolean firstIsKept;
    private boolean secondIsKept;

    private final Week week = new Week();
    private final Past past = new Past();
    private boolean pastIsOld = true;

    private final int[] chosenGuild = new int[MOST_CHOSEN];
    private final int[] triedDay = new int[MOST_CHOSEN];
    private final int[] bestDay = new int[MOST_CHOSEN];
    private int bestDays;
    private int exchangesDone;
    private final int[] ledBy = {NONE, NONE, NONE};

    public DyerBells() {
    }

    public int feed(int a, int b, int c, int d, int e) {
        if (tape.length > TAPE_BYTES - FEED_BYTES) {
            return NONE;
        }
        tape.put(a);
        tape.put(b);
        tape.put(c);
        tape.put(d);
        tape.put(e);
        return tape.length;
    }

    public boolean end(int n) {
        if (n < 0 || n > tape.length) {
            return false;
        }
        tape.length = n;
        return true;
    }

    public int river() {
        draft.forget();
        tape.open(RIVER_BYTES);
        int lines = RiverText.readLines(tape, draft.river);
        if (isRefused()) {
            return -1 - tape.faultPlace;
        }
        now.copyFrom(draft);
        pastIsOld = true;
        return lines;
    }

    public int fault() {
        return latestFault;
    }

    public int reach(int r, int what) throws NoSuchElementException {
        if (!isReach(r) || what < 0 || what > 1) {
            throw new NoSuchElementException();
        }
        return what == 0 ? now.river.vol[r] : now.river.settle[r];
    }

    public int guild(int g, int what) throws NoSuchElementException {
        if (!isGuild(g) || what < 0 || what >= 2 + now.river.colours) {
            throw new NoSuchElementException();
        }
        if (what == 0) {
            return now.river.guildReach[g];
        }
        return what == 1 ? now.river.guildHours[g] : now.river.guildPuts[g * MOST_COLOURS + what - 2];
    }

    public int user(int u, int what) throws NoSuchElementException {
        if (!isUser(u) || what < 0 || what >= 3 + now.river.colours) {
            throw new NoSuchElementException();
        }
        if (what == 0) {
            return now.river.userReach[u];
        }
        if (what == 1) {
            return now.river.userFrom[u];
        }
        return what == 2 ? now.river.userTill[u] : now.river.userBears[u * MOST_COLOURS + what - 3];
    }

    public int flow(int day) throws NoSuchElementException {
        if (day < 0 || day >= DAYS) {
            throw new NoSuchElementException();
        }
        return now.river.flowOn(day);
    }

    public int order() {
        draft.order.forget();
        tape.open(ORDER_BYTES);
        draft.order.readBells(tape, now.river.names);
        if (isRefused()) {
            return -1 - tape.faultPlace;
        }
        now.order.copyFrom(draft.order);
        pastIsOld = true;
        return now.order.bells;
    }

    public int ring(int hour, int g, int hours) {
        boolean asTold = isHour(hour) && isGuild(g) && hours >= 1 && hours <= DAY_HOURS && hour + hours <= HOURS;
        if (!asTold || now.order.bells >= MOST_BELLS) {
            return NONE;
        }
        now.order.add(hour, g, hours);
        pastIsOld = true;
        return now.order.bells - 1;
    }

    public int undo() {
        if (now.order.bells <= 0) {
            return NONE;
        }
        now.order.bells--;
        pastIsOld = true;
        return now.order.bells;
    }

    public int bell(int k, int what) throws NoSuchElementException {
        if (!isBell(k) || what < 0 || what > 2) {
            throw new NoSuchElementException();
        }
        if (what == 0) {
            return now.order.hour[k];
        }
        return what == 1 ? now.order.guild[k] : now.order.hours[k];
    }

    public int at(int hour, int r, int c, int what) {
        if (!isHour(hour) || !isReach(r) || !isColour(c)) {
            return NONE;
        }
        Past told = past();
        int cell = hour * CELLS + r * MOST_COLOURS + c;
        switch (what) {
            case 0:
                return told.water[cell];
            case 1:
                return told.bed[cell];
            case 2:
                return shadeOf(told.water[cell], now.river.vol[r]);
            default:
                return NONE;
        }
    }

    public int passed(int hour, int c) {
        if (!isHour(hour) || !isColour(c)) {
            return NONE;
        }
        return past().passed[hour * MOST_COLOURS + c];
    }

    public int sum(int c, int what) {
        if (!isColour(c)) {
            return NONE;
        }
        Past told = past();
        switch (what) {
            case 0:
                return told.sumPut(now.river, c);
            case 1:
                return told.sumPassed(c);
            case 2:
                return told.sumLast(told.water, c);
            case 3:
                return told.sumLast(told.bed, c);
            default:
                return NONE;
        }
    }

    public int fine(int hour, int r) {
        if (!isHour(hour) || !isReach(r)) {
            return NONE;
        }
        Past told = past();
        int fine = 0;
        for (int c = 0; c < now.river.colours; c++) {
            fine += now.river.fineOf(c, told.shadeAt(now.river, hour, r, c));
        }
        return fine;
    }

    public int harmed(int u, int k) {
        if (!isUser(u) || k < NONE) {
            return NONE;
        }
        Past told = past();
        int found = 0;
        for (int h = 0; h < HOURS; h++) {
            if (told.isHarmed(u, h)) {
                if (found == k) {
                    return h;
                }
                found++;
            }
        }
        return k == NONE ? found : NONE;
    }

    public int harm() {
        return past().harmBefore[HOURS];
    }

    public int blame(int g, int u) {
        if (!isGuild(g) || !isUser(u)) {
            return NONE;
        }
        Past told = past();
        week.prepare(now.river, now.order);
        for (int h = 0; h < HOURS; h++) {
            week.works[h] &= ~(1 << g);
        }
        week.empty();
        int hours = 0;
        for (int h = 0; h < HOURS; h++) {
            week.pass(now.river, h);
            if (told.isHarmed(u, h) && (week.harmedBehind(now.river, h) >> u & 1) == 0) {
                hours++;
            }
        }
        return hours;
    }

    public int duty(int g) {
        if (!isGuild(g)) {
            return NONE;
        }
        Past told = past();
        int left = now.river.guildHours[g];
        for (int h = 0; h < HOURS; h++) {
            left -= told.works[h] >> g & 1;
        }
        return Math.max(left, 0);
    }

    public int pulse(int r, int c, int n, int what) {
        if (!isReach(r) || !isColour(c) || n < 1 || n > MOST_NUMBER || what < 0 || what > 2) {
            return NOT_AS_TOLD;
        }
        week.takeFrom(now.river);
        week.rest();
        week.empty();
        week.water[r * MOST_COLOURS + c] = n;
        int first = NONE;
        int fullest = NONE;
        int most = 0;
        int all = 0;
        for (int h = 0; h < HOURS; h++) {
            week.pass(now.river, h);
            int gone = week.passed[c];
            all += gone;
            if (gone > 0 && first == NONE) {
                first = h;
            }
            if (gone > most) {
                most = gone;
                fullest = h;
            }
        }
        if (what == 0) {
            return first;
        }
        return what == 1 ? fullest : all;
    }

    public int days(int hour) {
        int told = tape.length;
        tape.length = 0;
        if (hour < 0 || hour >= DAY_HOURS || !chooseGuilds(told)) {
            return NOT_AS_TOLD;
        }
        past();
        week.prepare(now.river, now.order);
        int fewest = tryDays(0, told, hour, MORE_THAN_ANY_HARM);
        if (fewest == MORE_THAN_ANY_HARM) {
            return NONE;
        }
        bestDays = told;
        return fewest;
    }

    public int dayOf(int i) {
        return i >= 0 && i < bestDays && i < MOST_CHOSEN ? bestDay[i] : NONE;
    }

    public int exchange() {
        int harm = past().harmBefore[HOURS];
        exchangesDone = 0;
        for (int i = 0; i < MOST_EXCHANGES && harm > 0; i++) {
            int then = exchangeFirst(harm);
            if (then >= harm) {
                break;
            }
            harm = then;
            exchangesDone++;
        }
        return harm;
    }

    public int exchanges() {
        return exchangesDone;
    }

    public int late(int k) {
        if (!isBell(k)) {
            return NONE;
        }
        Past told = past();
        int allowed = told.harmBefore[HOURS];
        int start = now.order.hour[k];
        int room = Math.min(MOST_LATE, HOURS - start - now.order.hours[k]);
        int latest = 0;
        for (int later = 1; later <= room; later++) {
            now.order.hour[k] = start + later;
            week.prepare(now.river, now.order);
            if (week.harmFrom(now.river, told, start, allowed + 1) > allowed) {
                break;
            }
            latest = later;
        }
        now.order.hour[k] = start;
        return latest;
    }

    public int see(int hour, int c, int much) {
        if (!isHour(hour) || !isColour(c) || much < 0 || now.sights.sights >= MOST_SIGHTS) {
            return NONE;
        }
        now.sights.add(hour, c, much);
        return now.sights.sights - 1;
    }

    public int night() {
        Past told = past();
        week.prepare(now.river, now.order);
        // Until it begins to dye all goes as by the ORDER: what is SEEN otherwise ahead of that can't be mended.
        int latestStart = Math.min(now.sights.firstUnlike(told), HOURS - 1);
        int found = 0;
        for (int g = 0; g < now.river.guilds; g++) {
            for (int start = 0; start <= latestStart; start++) {
                found += tryNights(g, start, found);
            }
        }
        if (found != 1) {
            ledBy[0] = NONE;
            ledBy[1] = NONE;
            ledBy[2] = NONE;
        }
        return found;
    }

    public int led(int what) {
        return what >= 0 && what <= 2 ? ledBy[what] : NONE;
    }

    public int dam(int r, int v) {
        if (!isReach(r) || v < 1 || v > MOST_NUMBER) {
            return NONE;
        }
        week.prepare(now.river, now.order);
        week.vol[r] = v;
        return week.harmOfAll(now.river, MORE_THAN_ANY_HARM);
    }

    public int rain(int weeks, int seed) {
        if (weeks < 1 || weeks > MOST_WEEKS) {
            return NONE;
        }
        week.prepare(now.river, now.order);
        int x = seed;
        int harmedWeeks = 0;
        for (int w = 0; w < weeks; w++) {
            for (int day = 0; day < DAYS; day++) {
                x = x * 1103515245 + 12345;
                week.flow[day] = rainedFlow(now.river.flowOn(day), (x >>> 8) % 5);
            }
            if (week.harmOfAll(now.river, 1) > 0) {
                harmedWeeks++;
            }
        }
        return harmedWeeks;
    }

    public int sentence() {
        draft.sentence.forget();
        tape.open(SENTENCE_BYTES);
        SentenceText.readCond(tape, now.river.names, draft.sentence, 1);
        tape.close();
        if (isRefused()) {
            return -1 - tape.faultPlace;
        }
        now.sentence.copyFrom(draft.sentence);
        return now.sentence.ones;
    }

    public int said(int k) {
        if (k < NONE || now.sentence.ones == 0) {
            return NONE;
        }
        Past told = past();
        int found = 0;
        for (int h = 0; h < HOURS; h++) {
            if (now.sentence.holds(now.river, told, h)) {
                if (found == k) {
                    return h;
                }
                found++;
            }
        }
        return k == NONE ? found : NONE;
    }

    public boolean image(int k) {
        if (k == 0) {
            keptFirst.copyFrom(now);
            firstIsKept = true;
            return true;
        }
        if (k == 1) {
            keptSecond.copyFrom(now);
            secondIsKept = true;
            return true;
        }
        return false;
    }

    public boolean restore(int k) {
        boolean isKept = k == 0 && firstIsKept || k == 1 && secondIsKept;
        if (!isKept) {
            return false;
        }
        now.copyFrom(k == 0 ? keptFirst : keptSecond);
        pastIsOld = true;
        return true;
    }

    public int count(int what) {
        switch (what) {
            case 0:
                return now.river.reaches;
            case 1:
                return now.river.colours;
            case 2:
                return now.river.guilds;
            case 3:
                return now.river.users;
            case 4:
                return now.river.pebbles;
            case 5:
                return now.order.bells;
            case 6:
                return now.sights.sights;
            case 7:
                return tape.length;
            default:
                return NONE;
        }
    }

    private boolean isRefused() {
        latestFault = tape.fault;
        return latestFault != 0;
    }

    private boolean isHour(int hour) {
        return hour >= 0 && hour < HOURS;
    }

    private boolean isReach(int r) {
        return r >= 0 && r < now.river.reaches;
    }

    private boolean isColour(int c) {
        return c >= 0 && c < now.river.colours;
    }

    private boolean isGuild(int g) {
        return g >= 0 && g < now.river.guilds;
    }

    private boolean isUser(int u) {
        return u >= 0 && u < now.river.users;
    }

    private boolean isBell(int k) {
        return k >= 0 && k < now.order.bells;
    }

    private static int shadeOf(int much, int vol) {
        return vol > 0 ? much * 100 / vol : 0;
    }

    private static int rainedFlow(int told, int draw) {
        if (draw == 0) {
            return told / 2;
        }
        return draw == 4 ? Math.min(3 * told, MOST_NUMBER) : told;
    }

    /** The week as the ORDER has it; it is worked out again only behind a change. */
    private Past past() {
        if (pastIsOld) {
            week.prepare(now.river, now.order);
            week.empty();
            for (int h = 0; h < HOURS; h++) {
                week.pass(now.river, h);
                past.keep(now.river, week, h);
            }
            pastIsOld = false;
        }
        return past;
    }

    private boolean chooseGuilds(int told) {
        if (told < 1 || told > MOST_CHOSEN || now.order.bells + told > MOST_BELLS) {
            return false;
        }
        int seen = 0;
        for (int i = 0; i < told; i++) {
            int g = tape.byteAt(i);
            if (!isGuild(g) || (seen >> g & 1) != 0) {
                return false;
            }
            seen |= 1 << g;
            chosenGuild[i] = g;
        }
        return true;
    }

    /**
     * The fewest HOURS HARMED below 'fewest', with the days of the GUILDS ahead of the i-th as tried.
     * More work never makes any water clearer, so a part of the choice that is no better is left at once.
     */
    private int tryDays(int i, int told, int hour, int fewest) {
        if (i < 0 || i >= told || i >= MOST_CHOSEN) {
            return fewest;
        }
        int g = chosenGuild[i];
        int hours = now.river.guildHours[g];
        for (int day = 0; day < DAYS; day++) {
            int start = day * DAY_HOURS + hour;
            if (start + hours > HOURS) {
                break;
            }
            triedDay[i] = day;
            week.setWork(g, start, hours);
            int harm = week.harmFrom(now.river, past, firstTried(i, hour), fewest);
            if (harm < fewest && i + 1 < told) {
                fewest = tryDays(i + 1, told, hour, fewest);
            } else if (harm < fewest) {
                fewest = harm;
                System.arraycopy(triedDay, 0, bestDay, 0, told);
            }
            week.resetWork(past, g, start, hours);
        }
        return fewest;
    }

    private int firstTried(int last, int hour) {
        int least = DAYS - 1;
        for (int i = 0; i <= last && i < MOST_CHOSEN; i++) {
            least = Math.min(least, triedDay[i]);
        }
        return least * DAY_HOURS + hour;
    }

    /** Exchanges the first two BELLS that make it less, and tells the HOURS HARMED then; 'harm' if there are none. */
    private int exchangeFirst(int harm) {
        Past told = past();
        Order bells = now.order;
        for (int a = 0; a < bells.bells; a++) {
            for (int b = a + 1; b < bells.bells; b++) {
                if (bells.guild[a] != bells.guild[b]) {
                    bells.swapGuilds(a, b);
                    week.prepare(now.river, bells);
                    int then = week.harmFrom(now.river, told, Math.min(bells.hour[a], bells.hour[b]), harm);
                    if (then < harm) {
                        pastIsOld = true;
                        return then;
                    }
                    bells.swapGuilds(a, b);
                }
            }
        }
        return harm;
    }

    /** How many lengths of work of GUILD g from 'start' on agree with all SEEN; the first of all nights is LED. */
    private int tryNights(int g, int start, int foundAhead) {
        int most = Math.min(MOST_NIGHT, HOURS - start);
        int found = 0;
        for (int hours = 1; hours <= most; hours++) {
            week.setWork(g, start, hours);
            if (week.agreesFrom(now.river, past, start, now.sights)) {
                if (foundAhead + found == 0) {
                    ledBy[0] = g;
                    ledBy[1] = start;
                    ledBy[2] = hours;
                }
                found++;
            }
        }
        week.resetWork(past, g, start, most);
        return found;
    }

    /** All that is kept by an image. */
    private static final class Scene {
        final River river = new River();
        final Order order = new Order();
        final Sights sights = new Sights();
        final Sentence sentence = new Sentence();

        void forget() {
            river.forget();
            order.forget();
            sights.sights = 0;
            sentence.forget();
        }

        void copyFrom(Scene other) {
            river.copyFrom(other.river);
            order.copyFrom(other.order);
            sights.copyFrom(other.sights);
            sentence.copyFrom(other.sentence);
        }
    }

    /** The RIVER as told; rows of COLOURS have MOST_COLOURS places for each GUILD or USER. */
    private static final class River {
        private static final int FLOW_WITHOUT = 100;
        private static final int FLOOD_WITHOUT = 9999;

        final Names names = new Names();
        int reaches;
        final int[] vol = new int[MOST_REACHES];
        final int[] settle = new int[MOST_REACHES];
        int colours;
        int guilds;
        final int[] guildReach = new int[MOST_GUILDS];
        final int[] guildHours = new int[MOST_GUILDS];
        final int[] guildPuts = new int[MOST_GUILDS * MOST_COLOURS];
        int users;
        final int[] userReach = new int[MOST_USERS];
        final int[] userFrom = new int[MOST_USERS];
        final int[] userTill = new int[MOST_USERS];
        final int[] userBears = new int[MOST_USERS * MOST_COLOURS];
        // NONE where the text tells nothing: so a second telling is known from a first one.
        final int[] flow = {NONE, NONE, NONE, NONE, NONE, NONE, NONE};
        int flood = NONE;
        int pebbles;
        final int[] pebbleColour = new int[MOST_PEBBLES];
        final int[] pebbleShade = new int[MOST_PEBBLES];
        final int[] pebbleFine = new int[MOST_PEBBLES];

        void forget() {
            names.names = 0;
            reaches = 0;
            colours = 0;
            guilds = 0;
            users = 0;
            pebbles = 0;
            flood = NONE;
            for (int i = 0; i < DAYS; i++) {
                flow[i] = NONE;
            }
            for (int i = 0; i < MOST_GUILDS * MOST_COLOURS; i++) {
                guildPuts[i] = 0;
            }
            for (int i = 0; i < MOST_USERS * MOST_COLOURS; i++) {
                userBears[i] = NONE;
            }
        }

        void copyFrom(River other) {
            names.copyFrom(other.names);
            reaches = other.reaches;
            System.arraycopy(other.vol, 0, vol, 0, MOST_REACHES);
            System.arraycopy(other.settle, 0, settle, 0, MOST_REACHES);
            colours = other.colours;
            guilds = other.guilds;
            System.arraycopy(other.guildReach, 0, guildReach, 0, MOST_GUILDS);
            System.arraycopy(other.guildHours, 0, guildHours, 0, MOST_GUILDS);
            System.arraycopy(other.guildPuts, 0, guildPuts, 0, MOST_GUILDS * MOST_COLOURS);
            users = other.users;
            System.arraycopy(other.userReach, 0, userReach, 0, MOST_USERS);
            System.arraycopy(other.userFrom, 0, userFrom, 0, MOST_USERS);
            System.arraycopy(other.userTill, 0, userTill, 0, MOST_USERS);
            System.arraycopy(other.userBears, 0, userBears, 0, MOST_USERS * MOST_COLOURS);
            System.arraycopy(other.flow, 0, flow, 0, DAYS);
            flood = other.flood;
            pebbles = other.pebbles;
            System.arraycopy(other.pebbleColour, 0, pebbleColour, 0, MOST_PEBBLES);
            System.arraycopy(other.pebbleShade, 0, pebbleShade, 0, MOST_PEBBLES);
            System.arraycopy(other.pebbleFine, 0, pebbleFine, 0, MOST_PEBBLES);
        }

        int flowOn(int day) {
            return flow[day] == NONE ? FLOW_WITHOUT : flow[day];
        }

        int floodFrom() {
            return flood == NONE ? FLOOD_WITHOUT : flood;
        }

        boolean hasPebble(int c, int shade) {
            for (int i = 0; i < pebbles; i++) {
                if (pebbleColour[i] == c && pebbleShade[i] == shade) {
                    return true;
                }
            }
            return false;
        }

        int fineOf(int c, int shade) {
            int greatest = 0;
            int due = 0;
            for (int i = 0; i < pebbles; i++) {
                if (pebbleColour[i] == c && pebbleShade[i] <= shade && pebbleShade[i] > greatest) {
                    greatest = pebbleShade[i];
                    due = pebbleFine[i];
                }
            }
            return due;
        }
    }

    /** The NAMES told; a WORD is held as its letters, eight bits each, in one number. */
    private static final class Names {
        static final int OF_REACH = 0;
        static final int OF_COLOUR = 1;
        static final int OF_GUILD = 2;
        static final int OF_USER = 3;
        private static final int MOST_NAMES = MOST_REACHES + MOST_COLOURS + MOST_GUILDS + MOST_USERS;

        int names;
        private final long[] word = new long[MOST_NAMES];
        private final int[] sort = new int[MOST_NAMES];
        private final int[] number = new int[MOST_NAMES];

        void copyFrom(Names other) {
            names = other.names;
            System.arraycopy(other.word, 0, word, 0, MOST_NAMES);
            System.arraycopy(other.sort, 0, sort, 0, MOST_NAMES);
            System.arraycopy(other.number, 0, number, 0, MOST_NAMES);
        }

        void takeNew(Tape in, int ofSort, int itsNumber) {
            if (!in.isName()) {
                in.refuse(CANT_COME);
            } else if (find(in.word) != NONE || names >= MOST_NAMES) {
                in.refuse(WRONG_NAME);
            } else {
                word[names] = in.word;
                sort[names] = ofSort;
                number[names] = itsNumber;
                names++;
                in.advance();
            }
        }

        /** The number that a told NAME of a sort has; NONE behind a FAULT. */
        int takeTold(Tape in, int ofSort) {
            if (!in.isName()) {
                in.refuse(CANT_COME);
                return NONE;
            }
            int i = find(in.word);
            if (i == NONE || sort[i] != ofSort) {
                in.refuse(WRONG_NAME);
                return NONE;
            }
            in.advance();
            return in.fault == 0 ? number[i] : NONE;
        }

        private int find(long sought) {
            for (int i = 0; i < names; i++) {
                if (word[i] == sought) {
                    return i;
                }
            }
            return NONE;
        }
    }

    /** The BELLS, in the order in which they were rung. */
    private static final class Order {
        int bells;
        final int[] hour = new int[MOST_BELLS];
        final int[] guild = new int[MOST_BELLS];
        final int[] hours = new int[MOST_BELLS];

        void forget() {
            bells = 0;
        }

        void copyFrom(Order other) {
            bells = other.bells;
            System.arraycopy(other.hour, 0, hour, 0, MOST_BELLS);
            System.arraycopy(other.guild, 0, guild, 0, MOST_BELLS);
            System.arraycopy(other.hours, 0, hours, 0, MOST_BELLS);
        }

        void add(int from, int g, int many) {
            if (bells < MOST_BELLS) {
                hour[bells] = from;
                guild[bells] = g;
                hours[bells] = many;
                bells++;
            }
        }

        void swapGuilds(int a, int b) {
            int first = guild[a];
            guild[a] = guild[b];
            guild[b] = first;
        }

        void readBells(Tape in, Names names) {
            for (int i = 0; i <= MOST_BELLS && in.goesOn(); i++) {
                readBell(in, names);
            }
            in.close();
        }

        private void readBell(Tape in, Names names) {
            if (!in.isWord(Tape.BELL)) {
                in.refuse(CANT_COME);
                return;
            }
            if (bells >= MOST_BELLS) {
                in.refuse(TOO_MANY);
                return;
            }
            in.advance();
            int day = in.takeNumber(0, DAYS - 1);
            int from = day * DAY_HOURS + in.takeNumber(0, DAY_HOURS - 1);
            int g = names.takeTold(in, Names.OF_GUILD);
            int many = in.takeNumber(1, Math.min(DAY_HOURS, HOURS - from));
            in.takeSign(';');
            if (in.fault == 0) {
                add(from, g, many);
            }
        }
    }

    /** What was SEEN at the bridge. */
    private static final class Sights {
        int sights;
        final int[] hour = new int[MOST_SIGHTS];
        final int[] colour = new int[MOST_SIGHTS];
        final int[] much = new int[MOST_SIGHTS];

        void copyFrom(Sights other) {
            sights = other.sights;
            System.arraycopy(other.hour, 0, hour, 0, MOST_SIGHTS);
            System.arraycopy(other.colour, 0, colour, 0, MOST_SIGHTS);
            System.arraycopy(other.much, 0, much, 0, MOST_SIGHTS);
        }

        void add(int seenIn, int c, int howMuch) {
            if (sights < MOST_SIGHTS) {
                hour[sights] = seenIn;
                colour[sights] = c;
                much[sights] = howMuch;
                sights++;
            }
        }

        int lastHour() {
            int last = NONE;
            for (int i = 0; i < sights; i++) {
                last = Math.max(last, hour[i]);
            }
            return last;
        }

        /** The first HOUR in which the ORDER alone gives another sight; HOURS if there is none. */
        int firstUnlike(Past told) {
            int first = HOURS;
            for (int i = 0; i < sights; i++) {
                if (told.passed[hour[i] * MOST_COLOURS + colour[i]] != much[i]) {
                    first = Math.min(first, hour[i]);
                }
            }
            return first;
        }

        boolean agree(int inHour, int[] passedThen) {
            for (int i = 0; i < sights; i++) {
                if (hour[i] == inHour && passedThen[colour[i]] != much[i]) {
                    return false;
                }
            }
            return true;
        }
    }

    /** A SENTENCE as steps of a stack of truths: its parts come ahead of what joins them. */
    private static final class Sentence {
        static final int NOT = 0;
        static final int AND = 1;
        static final int OR = 2;
        static final int WORKS = 3;
        static final int HARMED = 4;
        static final int SHADE = 5;
        static final int HOUR = 6;
        static final int DAY = 7;
        static final int PASSED = 8;
        static final int MOST_ONES = 20;
        static final int MOST_WITHIN = 8;
        // Each ONE but a bracket is a step, and there is one step less to join them.
        private static final int MOST_STEPS = 2 * MOST_ONES;

        int ones;
        private int steps;
        private final int[] kind = new int[MOST_STEPS];
        private final int[] first = new int[MOST_STEPS];
        private final int[] second = new int[MOST_STEPS];
        private final int[] sign = new int[MOST_STEPS];
        private final int[] number = new int[MOST_STEPS];

        void forget() {
            ones = 0;
            steps = 0;
        }

        void copyFrom(Sentence other) {
            ones = other.ones;
            steps = other.steps;
            System.arraycopy(other.kind, 0, kind, 0, MOST_STEPS);
            System.arraycopy(other.first, 0, first, 0, MOST_STEPS);
            System.arraycopy(other.second, 0, second, 0, MOST_STEPS);
            System.arraycopy(other.sign, 0, sign, 0, MOST_STEPS);
            System.arraycopy(other.number, 0, number, 0, MOST_STEPS);
        }

        void addStep(int ofKind, int one, int other, int itsSign, int itsNumber) {
            if (steps < MOST_STEPS) {
                kind[steps] = ofKind;
                first[steps] = one;
                second[steps] = other;
                sign[steps] = itsSign;
                number[steps] = itsNumber;
                steps++;
            }
        }

        boolean holds(River river, Past told, int hour) {
            int stack = 0;
            for (int i = 0; i < steps; i++) {
                int top = stack & 1;
                int below = stack >>> 1 & 1;
                switch (kind[i]) {
                    case NOT:
                        stack ^= 1;
                        break;
                    case AND:
                        stack = stack >>> 2 << 1 | top & below;
                        break;
                    case OR:
                        stack = stack >>> 2 << 1 | (top | below);
                        break;
                    default:
                        stack = stack << 1 | (isSo(i, river, told, hour) ? 1 : 0);
                        break;
                }
            }
            return (stack & 1) != 0;
        }

        private boolean isSo(int i, River river, Past told, int hour) {
            switch (kind[i]) {
                case WORKS:
                    return (told.works[hour] >> first[i] & 1) != 0;
                case HARMED:
                    return told.isHarmed(first[i], hour);
                case SHADE:
                    return compares(told.shadeAt(river, hour, second[i], first[i]), i);
                case HOUR:
                    return compares(hour, i);
                case DAY:
                    return compares(hour / DAY_HOURS, i);
                default:
                    return compares(told.passedOfAll(river, hour), i);
            }
        }

        private boolean compares(int value, int i) {
            if (sign[i] == '<') {
                return value < number[i];
            }
            return sign[i] == '>' ? value > number[i] : value == number[i];
        }
    }

    /** The bytes fed, and how they are read TOKEN by TOKEN: the first FAULT stays, and nothing is taken behind it. */
    private static final class Tape {
        static final long REACH = 0x7265616368L;
        static final long COLOUR = 0x636f6c6f7572L;
        static final long GUILD = 0x6775696c64L;
        static final long USER = 0x75736572L;
        static final long FLOW = 0x666c6f77L;
        static final long FLOOD = 0x666c6f6f64L;
        static final long PEBBLE = 0x706562626c65L;
        static final long BELL = 0x62656c6cL;
        static final long OR = 0x6f72L;
        static final long AND = 0x616e64L;
        static final long NOT = 0x6e6f74L;
        static final long WORKS = 0x776f726b73L;
        static final long HARMED = 0x6861726d6564L;
        static final long SHADE = 0x7368616465L;
        static final long HOUR = 0x686f7572L;
        static final long DAY = 0x646179L;
        static final long PASSED = 0x706173736564L;
        private static final int AT_END = 0;
        private static final int OF_LETTERS = 1;
        private static final int OF_DIGITS = 2;
        private static final int OF_SIGN = 3;
        private static final int NO_TOKEN = 4;
        private static final int MOST_LETTERS = 6;
        private static final int MOST_DIGITS = 4;

        private final byte[] text = new byte[TAPE_BYTES];
        int length;
        private int textLength;
        private int stop;
        private int next;
        private int kind;
        private int place;
        private int takenPlace;
        private int value;
        long word;
        int fault;
        int faultPlace;

        void put(int number) {
            for (int shift = 24; shift >= 0; shift -= 8) {
                if (length < TAPE_BYTES) {
                    text[length] = (byte) (number >>> shift);
                    length++;
                }
            }
        }

        int byteAt(int i) {
            return i >= 0 && i < TAPE_BYTES ? text[i] & 255 : NONE;
        }

        /** The tape is a text now, and empty for what is fed next. */
        void open(int mostBytes) {
            textLength = length;
            length = 0;
            // A TOKEN must begin ahead of 'stop', but may go on beyond it.
            stop = Math.min(textLength, mostBytes);
            next = 0;
            place = 0;
            fault = 0;
            faultPlace = 0;
            advance();
        }

        void advance() {
            if (fault != 0) {
                return;
            }
            takenPlace = place;
            int i = next;
            while (i < stop && (text[i] == ' ' || text[i] == '\n')) {
                i++;
            }
            // The TOKEN ahead may have gone on beyond 'stop', but the end is there.
            place = Math.min(i, stop);
            if (i >= stop) {
                kind = AT_END;
            } else if (!readRun(i)) {
                readSign(i);
            }
        }

        /** A WORD or a NUMBER, or what would be one but is too long or mixed; false: there is neither letter nor digit. */
        private boolean readRun(int from) {
            int letters = 0;
            int digits = 0;
            int i = from;
            word = 0;
            value = 0;
            for (; i < textLength; i++) {
                int b = text[i];
                if (b >= 'a' && b <= 'z') {
                    letters++;
                    word = word << 8 | b;
                } else if (b >= '0' && b <= '9') {
                    digits++;
                    value = value * 10 + b - '0';
                } else {
                    break;
                }
            }
            next = i;
            if (digits == 0 && letters <= MOST_LETTERS) {
                kind = OF_LETTERS;
            } else {
                kind = letters == 0 && digits <= MOST_DIGITS ? OF_DIGITS : NO_TOKEN;
            }
            return letters + digits > 0;
        }

        private void readSign(int at) {
            value = text[at];
            boolean isSign = value >= ';' && value <= '>' || value == '(' || value == ')';
            kind = isSign ? OF_SIGN : NO_TOKEN;
            next = at + 1;
        }

        boolean goesOn() {
            return fault == 0 && kind != AT_END;
        }

        boolean isAtSign(int sign) {
            return fault == 0 && kind == OF_SIGN && value == sign;
        }

        boolean isWord(long sought) {
            return fault == 0 && kind == OF_LETTERS && word == sought;
        }

        boolean isName() {
            return kind == OF_LETTERS && !isRiverWord() && word != BELL && !isSentenceWord();
        }

        private boolean isRiverWord() {
            return word == REACH || word == COLOUR || word == GUILD || word == USER
                || word == FLOW || word == FLOOD || word == PEBBLE;
        }

        private boolean isSentenceWord() {
            return word == OR || word == AND || word == NOT || word == WORKS || word == HARMED
                || word == SHADE || word == HOUR || word == DAY || word == PASSED;
        }

        int takeNumber(int least, int most) {
            if (kind != OF_DIGITS) {
                refuse(CANT_COME);
            } else if (value < least || value > most) {
                refuse(OUT_OF_BOUNDS);
            }
            int taken = value;
            advance();
            return fault == 0 ? taken : 0;
        }

        void takeSign(int sign) {
            if (!isAtSign(sign)) {
                refuse(CANT_COME);
            }
            advance();
        }

        /** The sign < = > that is taken; 0 behind a FAULT. */
        int takeComparison() {
            if (!isAtSign('<') && !isAtSign('=') && !isAtSign('>')) {
                refuse(CANT_COME);
            }
            int taken = value;
            advance();
            return fault == 0 ? taken : 0;
        }

        void refuse(int ofKind) {
            refuseAt(place, ofKind);
        }

        void refuseTaken(int ofKind) {
            refuseAt(takenPlace, ofKind);
        }

        private void refuseAt(int where, int ofKind) {
            if (fault == 0) {
                fault = ofKind;
                faultPlace = where;
            }
        }

        /** Nothing more may come, and no more bytes than a text may have. */
        void close() {
            if (kind != AT_END || textLength > stop) {
                refuse(CANT_COME);
            }
        }
    }

    /** How a RIVER's LINES are read; behind a FAULT the river is a draft that nobody uses. */
    private static final class RiverText {
        static int readLines(Tape in, River river) {
            int lines = 0;
            while (lines < RIVER_BYTES && in.goesOn()) {
                if (in.isWord(Tape.REACH)) {
                    readReach(in, river);
                } else if (in.isWord(Tape.COLOUR)) {
                    readColour(in, river);
                } else if (in.isWord(Tape.GUILD)) {
                    readGuild(in, river);
                } else if (in.isWord(Tape.USER)) {
                    readUser(in, river);
                } else if (in.isWord(Tape.FLOW)) {
                    readFlow(in, river);
                } else if (in.isWord(Tape.FLOOD)) {
                    readFlood(in, river);
                } else if (in.isWord(Tape.PEBBLE)) {
                    readPebble(in, river);
                } else {
                    in.refuse(CANT_COME);
                }
                in.takeSign(';');
                lines++;
            }
            in.close();
            return lines;
        }

        private static void readReach(Tape in, River river) {
            int r = river.reaches;
            if (r >= MOST_REACHES) {
                in.refuse(TOO_MANY);
                return;
            }
            in.advance();
            river.names.takeNew(in, Names.OF_REACH, r);
            river.vol[r] = in.takeNumber(1, MOST_NUMBER);
            river.settle[r] = in.takeNumber(0, 500);
            river.reaches = r + 1;
        }

        private static void readColour(Tape in, River river) {
            int c = river.colours;
            if (c >= MOST_COLOURS) {
                in.refuse(TOO_MANY);
                return;
            }
            in.advance();
            river.names.takeNew(in, Names.OF_COLOUR, c);
            river.colours = c + 1;
        }

        private static void readGuild(Tape in, River river) {
            int g = river.guilds;
            if (g >= MOST_GUILDS) {
                in.refuse(TOO_MANY);
                return;
            }
            in.advance();
            river.names.takeNew(in, Names.OF_GUILD, g);
            river.guildReach[g] = river.names.takeTold(in, Names.OF_REACH);
            river.guildHours[g] = in.takeNumber(1, DAY_HOURS);
            if (in.isAtSign(';')) {
                in.refuse(CANT_COME);
            }
            readShares(in, river.names, river.guildPuts, g * MOST_COLOURS, 1);
            river.guilds = g + 1;
        }

        private static void readUser(Tape in, River river) {
            int u = river.users;
            if (u >= MOST_USERS) {
                in.refuse(TOO_MANY);
                return;
            }
            in.advance();
            river.names.takeNew(in, Names.OF_USER, u);
            river.userReach[u] = river.names.takeTold(in, Names.OF_REACH);
            int from = in.takeNumber(0, DAY_HOURS - 1);
            river.userFrom[u] = from;
            river.userTill[u] = in.takeNumber(from + 1, DAY_HOURS);
            readShares(in, river.names, river.userBears, u * MOST_COLOURS, 0);
            river.users = u + 1;
        }

        private static void readShares(Tape in, Names names, int[] row, int start, int least) {
            int told = 0;
            for (int i = 0; i <= MOST_COLOURS && in.fault == 0 && !in.isAtSign(';'); i++) {
                int c = names.takeTold(in, Names.OF_COLOUR);
                if (c >= 0 && (told >> c & 1) != 0) {
                    in.refuseTaken(WRONG_NAME);
                }
                int n = in.takeNumber(least, MOST_NUMBER);
                if (c >= 0 && c < MOST_COLOURS) {
                    row[start + c] = n;
                    told |= 1 << c;
                }
            }
        }

        private static void readFlow(Tape in, River river) {
            in.advance();
            int day = in.takeNumber(0, DAYS - 1);
            if (river.flow[day] != NONE) {
                in.refuseTaken(WRONG_NAME);
            }
            river.flow[day] = in.takeNumber(0, MOST_NUMBER);
        }

        private static void readFlood(Tape in, River river) {
            if (river.flood != NONE) {
                in.refuse(WRONG_NAME);
                return;
            }
            in.advance();
            river.flood = in.takeNumber(1, MOST_NUMBER);
        }

        private static void readPebble(Tape in, River river) {
            int p = river.pebbles;
            if (p >= MOST_PEBBLES) {
                in.refuse(TOO_MANY);
                return;
            }
            in.advance();
            int c = river.names.takeTold(in, Names.OF_COLOUR);
            int shade = in.takeNumber(1, MOST_NUMBER);
            if (river.hasPebble(c, shade)) {
                in.refuseTaken(WRONG_NAME);
            }
            river.pebbleColour[p] = c;
            river.pebbleShade[p] = shade;
            river.pebbleFine[p] = in.takeNumber(0, 999);
            river.pebbles = p + 1;
        }
    }

    /** How a SENTENCE is read; 'within' counts the ONES that are open, the one that is read too. */
    private static final class SentenceText {
        static void readCond(Tape in, Names names, Sentence out, int within) {
            readAll(in, names, out, within);
            for (int i = 0; i < Sentence.MOST_ONES && in.isWord(Tape.OR); i++) {
                in.advance();
                readAll(in, names, out, within);
                out.addStep(Sentence.OR, 0, 0, 0, 0);
            }
        }

        private static void readAll(Tape in, Names names, Sentence out, int within) {
            readOne(in, names, out, within);
            for (int i = 0; i < Sentence.MOST_ONES && in.isWord(Tape.AND); i++) {
                in.advance();
                readOne(in, names, out, within);
                out.addStep(Sentence.AND, 0, 0, 0, 0);
            }
        }

        private static void readOne(Tape in, Names names, Sentence out, int within) {
            boolean isNot = in.isWord(Tape.NOT);
            boolean isBracket = in.isAtSign('(');
            if (!isNot && !isBracket && !beginsPlain(in)) {
                in.refuse(CANT_COME);
                return;
            }
            if (out.ones >= Sentence.MOST_ONES || within > Sentence.MOST_WITHIN) {
                in.refuse(TOO_MANY);
                return;
            }
            out.ones++;
            if (isNot) {
                in.advance();
                readOne(in, names, out, within + 1);
                out.addStep(Sentence.NOT, 0, 0, 0, 0);
            } else if (isBracket) {
                in.advance();
                readCond(in, names, out, within + 1);
                in.takeSign(')');
            } else {
                readPlain(in, names, out);
            }
        }

        private static boolean beginsPlain(Tape in) {
            return in.isWord(Tape.WORKS) || in.isWord(Tape.HARMED) || in.isWord(Tape.SHADE)
                || in.isWord(Tape.HOUR) || in.isWord(Tape.DAY) || in.isWord(Tape.PASSED);
        }

        private static void readPlain(Tape in, Names names, Sentence out) {
            if (in.isWord(Tape.WORKS)) {
                in.advance();
                out.addStep(Sentence.WORKS, names.takeTold(in, Names.OF_GUILD), 0, 0, 0);
            } else if (in.isWord(Tape.HARMED)) {
                in.advance();
                out.addStep(Sentence.HARMED, names.takeTold(in, Names.OF_USER), 0, 0, 0);
            } else if (in.isWord(Tape.SHADE)) {
                in.advance();
                int c = names.takeTold(in, Names.OF_COLOUR);
                int r = names.takeTold(in, Names.OF_REACH);
                readComparison(in, out, Sentence.SHADE, c, r);
            } else if (in.isWord(Tape.HOUR)) {
                in.advance();
                readComparison(in, out, Sentence.HOUR, 0, 0);
            } else if (in.isWord(Tape.DAY)) {
                in.advance();
                readComparison(in, out, Sentence.DAY, 0, 0);
            } else {
                in.advance();
                readComparison(in, out, Sentence.PASSED, 0, 0);
            }
        }

        private static void readComparison(Tape in, Sentence out, int kind, int first, int second) {
            int sign = in.takeComparison();
            out.addStep(kind, first, second, sign, in.takeNumber(0, MOST_NUMBER));
        }
    }

    /** A week as it passes. Its own VOLS, flows and works may be others than the RIVER's and the ORDER's. */
    private static final class Week {
        final int[] vol = new int[MOST_REACHES];
        final int[] flow = new int[DAYS];
        final int[] works = new int[HOURS];
        final int[] water = new int[CELLS];
        final int[] bed = new int[CELLS];
        final int[] passed = new int[MOST_COLOURS];

        void prepare(River river, Order order) {
            takeFrom(river);
            rest();
            for (int k = 0; k < order.bells; k++) {
                setWork(order.guild[k], order.hour[k], order.hours[k]);
            }
        }

        void takeFrom(River river) {
            System.arraycopy(river.vol, 0, vol, 0, MOST_REACHES);
            for (int day = 0; day < DAYS; day++) {
                flow[day] = river.flowOn(day);
            }
        }

        void rest() {
            for (int h = 0; h < HOURS; h++) {
                works[h] = 0;
            }
        }

        void setWork(int g, int start, int hours) {
            for (int h = Math.max(start, 0); h < start + hours && h < HOURS; h++) {
                works[h] |= 1 << g;
            }
        }

        /** GUILD g works in these HOURS as in the past told, the others as they do. */
        void resetWork(Past told, int g, int start, int hours) {
            for (int h = Math.max(start, 0); h < start + hours && h < HOURS; h++) {
                works[h] = works[h] & ~(1 << g) | told.works[h] & 1 << g;
            }
        }

        void empty() {
            for (int cell = 0; cell < CELLS; cell++) {
                water[cell] = 0;
                bed[cell] = 0;
            }
        }

        void pass(River river, int hour) {
            int flowing = flow[hour / DAY_HOURS];
            pour(river, works[hour]);
            if (flowing >= river.floodFrom()) {
                washUp(river);
            }
            carry(river, flowing);
            sink(river);
        }

        private void pour(River river, int working) {
            for (int g = 0; g < river.guilds; g++) {
                if ((working >> g & 1) != 0) {
                    for (int c = 0; c < river.colours; c++) {
                        water[river.guildReach[g] * MOST_COLOURS + c] += river.guildPuts[g * MOST_COLOURS + c];
                    }
                }
            }
        }

        private void washUp(River river) {
            for (int cell = 0; cell < river.reaches * MOST_COLOURS; cell++) {
                int half = bed[cell] / 2;
                bed[cell] -= half;
                water[cell] += half;
            }
        }

        private void carry(River river, int flowing) {
            for (int c = 0; c < river.colours; c++) {
                // Without a REACH nothing comes to the bridge, and what another week had there must not stay.
                passed[c] = 0;
                for (int r = river.reaches - 1; r >= 0; r--) {
                    int cell = r * MOST_COLOURS + c;
                    int gone = partOf(water[cell], Math.min(flowing, vol[r]), vol[r]);
                    water[cell] -= gone;
                    if (r < river.reaches - 1) {
                        water[cell + MOST_COLOURS] += gone;
                    } else {
                        passed[c] = gone;
                    }
                }
            }
        }

        private void sink(River river) {
            for (int r = 0; r < river.reaches; r++) {
                for (int c = 0; c < river.colours; c++) {
                    int cell = r * MOST_COLOURS + c;
                    int down = partOf(water[cell], river.settle[r], 1000);
                    water[cell] -= down;
                    bed[cell] += down;
                }
            }
        }

        private static int partOf(int much, int part, int whole) {
            return much > 0 && whole > 0 ? (int) ((long) much * part / whole) : 0;
        }

        /** The USERS HARMED in an HOUR that has just passed, a bit each. */
        int harmedBehind(River river, int hour) {
            int ofDay = hour % DAY_HOURS;
            int harmedUsers = 0;
            for (int u = 0; u < river.users; u++) {
                if (ofDay >= river.userFrom[u] && ofDay < river.userTill[u] && suffers(river, u)) {
                    harmedUsers |= 1 << u;
                }
            }
            return harmedUsers;
        }

        private boolean suffers(River river, int u) {
            int r = river.userReach[u];
            for (int c = 0; c < river.colours; c++) {
                int borne = river.userBears[u * MOST_COLOURS + c];
                if (borne != NONE && shadeOf(water[r * MOST_COLOURS + c], vol[r]) > borne) {
                    return true;
                }
            }
            return false;
        }

        /** HOURS HARMED of the whole week; it may stop counting at 'enough'. */
        int harmOfAll(River river, int enough) {
            empty();
            return addHarm(river, 0, 0, enough);
        }

        /** Likewise, if all was as told ahead of an HOUR. */
        int harmFrom(River river, Past told, int from, int enough) {
            beginBehind(told, from);
            return addHarm(river, from, told.harmBefore[from], enough);
        }

        private int addHarm(River river, int from, int ahead, int enough) {
            int harm = ahead;
            for (int h = from; h < HOURS && harm < enough; h++) {
                pass(river, h);
                harm += Integer.bitCount(harmedBehind(river, h));
            }
            return harm;
        }

        /** Whether all SEEN from an HOUR on is just so, if all was as told ahead of it. */
        boolean agreesFrom(River river, Past told, int from, Sights sights) {
            beginBehind(told, from);
            int last = sights.lastHour();
            for (int h = from; h <= last && h < HOURS; h++) {
                pass(river, h);
                if (!sights.agree(h, passed)) {
                    return false;
                }
            }
            return true;
        }

        private void beginBehind(Past told, int from) {
            if (from <= 0) {
                empty();
            } else {
                System.arraycopy(told.water, (from - 1) * CELLS, water, 0, CELLS);
                System.arraycopy(told.bed, (from - 1) * CELLS, bed, 0, CELLS);
            }
        }
    }

    /** The week as RIVER and ORDER tell it, HOUR by HOUR. */
    private static final class Past {
        final int[] water = new int[HOURS * CELLS];
        final int[] bed = new int[HOURS * CELLS];
        final int[] passed = new int[HOURS * MOST_COLOURS];
        final int[] works = new int[HOURS];
        final int[] harmed = new int[HOURS];
        final int[] harmBefore = new int[HOURS + 1];

        void keep(River river, Week week, int hour) {
            System.arraycopy(week.water, 0, water, hour * CELLS, CELLS);
            System.arraycopy(week.bed, 0, bed, hour * CELLS, CELLS);
            System.arraycopy(week.passed, 0, passed, hour * MOST_COLOURS, MOST_COLOURS);
            works[hour] = week.works[hour];
            harmed[hour] = week.harmedBehind(river, hour);
            harmBefore[hour + 1] = harmBefore[hour] + Integer.bitCount(harmed[hour]);
        }

        boolean isHarmed(int u, int hour) {
            return (harmed[hour] >> u & 1) != 0;
        }

        int shadeAt(River river, int hour, int r, int c) {
            return shadeOf(water[hour * CELLS + r * MOST_COLOURS + c], river.vol[r]);
        }

        int passedOfAll(River river, int hour) {
            int all = 0;
            for (int c = 0; c < river.colours; c++) {
                all += passed[hour * MOST_COLOURS + c];
            }
            return all;
        }

        int sumPut(River river, int c) {
            int all = 0;
            for (int h = 0; h < HOURS; h++) {
                for (int g = 0; g < river.guilds; g++) {
                    if ((works[h] >> g & 1) != 0) {
                        all += river.guildPuts[g * MOST_COLOURS + c];
                    }
                }
            }
            return all;
        }

        int sumPassed(int c) {
            int all = 0;
            for (int h = 0; h < HOURS; h++) {
                all += passed[h * MOST_COLOURS + c];
            }
            return all;
        }

        /** All of a COLOUR behind the last HOUR, in 'water' or in 'bed'. */
        int sumLast(int[] row, int c) {
            int all = 0;
            for (int r = 0; r < MOST_REACHES; r++) {
                int cell = (HOURS - 1) * CELLS + r * MOST_COLOURS + c;
                if (cell >= 0 && cell < row.length) {
                    all += row[cell];
                }
            }
            return all;
        }
    }
}
