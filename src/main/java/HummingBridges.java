import java.util.Arrays;

/** Bridges that sound by what they carry. The document says, promise by promise, what each call answers. */
public final class HummingBridges {
    public static final int NONE = -1;

    /** The answer for others of those calls whose NONE (-1) means something of its own. */
    private static final int OTHERS = -2;

    private static final int MOST_BRIDGES = 6;
    private static final int MOST_LOADS = 12;
    private static final int MOST_TEXTS = 4;
    private static final int MOST_HEARD = 6;
    private static final int MOST_ARMIES = 6;
    private static final int LAST_HOUR = 999;
    private static final int TOP_NOTE = 999;

    /** Where a LOAD is, beside the numbers of the BRIDGES. */
    private static final int WAITS = -1;
    private static final int OVER = 6;
    private static final int LOST = 7;

    /** Where a LOAD is that is on no BRIDGE in a world, or goes round. */
    private static final int AWAY = 6;

    private final Valley now = new Valley();
    private final Valley kept = new Valley();
    private final Score[] scores = new Score[MOST_TEXTS];
    private final Tape tape = new Tape();
    private final Reader reader = new Reader(tape);
    private final Ear ear = new Ear(now, scores);
    private final Planner planner = new Planner(now, ear);
    private final Chooser chooser = new Chooser(now, ear);
    private final Listener listener = new Listener(now, ear);
    private final March march = new March(now);
    private final Match match = new Match(now, ear);
    private final Rounds rounds = new Rounds(now, ear);

    public HummingBridges() {
        for (int i = 0; i < MOST_TEXTS; i++) scores[i] = new Score();
    }

    public int bridge(int string, int length) {
        if (outside(string, 1, 60) || outside(length, 1, 9) || now.bridges >= MOST_BRIDGES) return NONE;
        return now.addBridge(string, length);
    }

    public int load(int weight, int kind, int purse) {
        if (outside(weight, 1, 60) || outside(kind, 0, 5) || outside(purse, 0, 99)) return NONE;
        if (now.loads >= MOST_LOADS) return NONE;
        return now.addLoad(weight, kind, purse);
    }

    public boolean ears(int one, int other) {
        if (!now.hasBridge(one) || !now.hasBridge(other) || one == other) return false;
        if (isIn(now.ears[one], other)) return false;
        now.ears[one] |= 1 << other;
        now.ears[other] |= 1 << one;
        return true;
    }

    public int go(int load, int bridge) {
        return now.sendOn(load, bridge) ? now.borne(bridge) : NONE;
    }

    public int hour(int n) {
        if (outside(n, 1, 60) || now.row[Valley.HOUR] + n > LAST_HOUR) return NONE;
        int fell = 0;
        for (int i = 0; i < n; i++) {
            now.keepStep();
            fell += ear.passHour();
        }
        return fell;
    }

    public boolean mend(int bridge) {
        return now.repair(bridge);
    }

    public boolean string(int bridge, int string) {
        return now.restring(bridge, string);
    }

    public boolean frost(int frost) {
        return now.freeze(frost);
    }

    public boolean stand(int bridge, int weight) {
        return now.post(bridge, weight);
    }

    public int season(int seed, int n) {
        if (outside(seed, 0, 9999) || outside(n, 1, 30)) return NONE;
        now.keepStep();
        now.row[Valley.X] = seed * 3 + Valley.FIRST_X;
        int fell = 0;
        for (int i = 0; i < n; i++) fell += seasonTurn();
        return fell;
    }

    private int seasonTurn() {
        int drawn = now.draw(8);
        if (drawn < 4) {
            now.drawGoing();
        } else if (drawn == 4) {
            now.drawMending();
        } else if (drawn == 5) {
            now.row[Valley.FROST] = now.draw(10);
        } else if (now.row[Valley.HOUR] < LAST_HOUR) {
            return ear.passHour();
        }
        return 0;
    }

    public int feed(int a, int b, int c, int d, int e) {
        if (tape.size + 20 > Tape.MOST) return NONE;
        tape.addFour(a);
        tape.addFour(b);
        tape.addFour(c);
        tape.addFour(d);
        tape.addFour(e);
        return tape.size;
    }

    public int end(int n) {
        if (outside(n, 0, tape.size)) return NONE;
        tape.size = n;
        return n;
    }

    public int text() {
        if (now.texts >= MOST_TEXTS) return NONE;
        boolean fine = reader.read(scores[now.texts]);
        tape.size = 0;
        if (!fine) return NONE;
        now.texts++;
        return now.texts - 1;
    }

    public int fault(int what) {
        if (what == 0) return reader.fault;
        return what == 1 ? reader.place : NONE;
    }

    public boolean by(int text) {
        if (outside(text, NONE, now.texts - 1)) return false;
        now.ruling = text;
        return true;
    }

    public int played(int text) {
        if (outside(text, 0, now.texts - 1)) return OTHERS;
        Score score = scores[text];
        for (int i = 0; i < score.clauses; i++) {
            int kind = score.kinds[i];
            int first = score.firsts[i];
            boolean done = kind == Tape.HOUR ? havePassed(first) : isDone(kind, first, score.seconds[i]);
            if (!done) return i;
        }
        return NONE;
    }

    /** Does what a CLAUSE of a TEXT says, as by hand, but for HOURS: whether it could be. */
    private boolean isDone(int kind, int first, int second) {
        switch (kind) {
            case Tape.GO: return now.sendOn(first, second);
            case Tape.MEND: return now.repair(first);
            case Tape.STRING: return now.restring(first, second);
            case Tape.FROST: return now.freeze(first);
            case Tape.STAND: return now.post(second, first);
            default: return true;
        }
    }

    private boolean havePassed(int hours) {
        for (int i = 0; i < hours; i++) {
            if (now.row[Valley.HOUR] >= LAST_HOUR) return false;
            now.keepStep();
            ear.passHour();
        }
        return true;
    }

    public int undo() {
        if (now.stepCount == 0) return NONE;
        now.takeBack();
        return now.stepCount;
    }

    public int of(int bridge, int what) {
        if (!now.hasBridge(bridge)) return NONE;
        switch (what) {
            case 0: return now.row[Valley.STRING + bridge];
            case 1: return now.length[bridge];
            case 2: return now.row[Valley.WEAR + bridge];
            case 3: return now.row[Valley.DOWN + bridge];
            case 4: return now.row[Valley.STANDER + bridge];
            case 5: return now.borne(bridge);
            case 6: return ear.noteOf(bridge, now.borne(bridge), now.countOn(bridge));
            case 7: return ear.holdsNow(bridge);
            case 8: return now.loadsWhere(bridge);
            case 9: return now.ears[bridge];
            default: return NONE;
        }
    }

    public int ofLoad(int load, int what) {
        if (!now.hasLoad(load)) return OTHERS;
        switch (what) {
            case 0: return now.weight[load];
            case 1: return now.kind[load];
            case 2: return now.purse[load];
            case 3: return now.row[Valley.WHERE + load];
            case 4: return now.row[Valley.SINCE + load];
            default: return OTHERS;
        }
    }

    public int falseTwo(int i) {
        ear.hearAll();
        int found = ear.findFalse(Ear.MOST_FALSE);
        if (i == NONE) return found;
        return outside(i, 0, found - 1) ? NONE : ear.falseTwos[i];
    }

    public int fallen(int i, int what) {
        if (i == NONE) return now.row[Valley.FELL];
        if (outside(i, 0, now.row[Valley.FELL] - 1) || outside(what, 0, 3)) return OTHERS;
        return now.ofFall(i, what);
    }

    public int foretold(int n, boolean when) {
        if (outside(n, 1, 60)) return NONE;
        return when ? ear.firstFall(n) : ear.downThen(n);
    }

    public int plan(int loads, int bridges, int load) {
        if (!now.areWaiting(loads, Planner.MOST) || !planner.isGiven(loads, bridges)) return NONE;
        if (load != NONE && !isIn(loads, load)) return NONE;
        int hours = planner.soonest();
        return load == NONE || hours == NONE ? hours : planner.waitOf(load);
    }

    public int shared(int weight, int set, int bridge) {
        if (outside(weight, 1, 60) || !now.areBridges(set, Chooser.MOST) || !now.areUp(set)) return NONE;
        if (bridge != NONE && !isIn(set, bridge)) return NONE;
        int parts = chooser.share(weight, set);
        return bridge == NONE || parts == NONE ? parts : chooser.choice(bridge);
    }

    public int retuned(int set, int bridge) {
        if (!now.areBridges(set, 3)) return NONE;
        if (bridge != NONE && !isIn(set, bridge)) return NONE;
        int changes = chooser.retune(set);
        if (bridge == NONE || changes == NONE) return changes;
        return now.row[Valley.STRING + bridge] - Chooser.REACH + chooser.choice(bridge);
    }

    public int which(int bridge, int note, int i) {
        if (!now.isUp(bridge) || outside(note, 0, TOP_NOTE)) return NONE;
        return listener.loadSet(bridge, note, i);
    }

    public int hidden(int bridge, int note, boolean many) {
        if (!now.isUp(bridge) || outside(note, 0, TOP_NOTE)) return NONE;
        return many ? listener.countMore(bridge, note) : listener.leastMore(bridge, note);
    }

    public int heard(int bridge, int note) {
        if (bridge == NONE) {
            now.heardCount = 0;
            return 0;
        }
        if (!now.hasBridge(bridge) || outside(note, 0, TOP_NOTE) || now.heardCount >= MOST_HEARD) return OTHERS;
        now.heardBridges[now.heardCount] = bridge;
        now.heardNotes[now.heardCount] = note;
        now.heardCount++;
        return now.heardCount;
    }

    public int worlds(int loads, int i, int load) {
        if (!now.areWaiting(loads, Listener.MOST) || i < NONE) return NONE;
        if (i != NONE && !isIn(loads, load)) return NONE;
        int seen = listener.goThrough(loads, i);
        if (i == NONE) return seen;
        return seen > i ? listener.place(load) : NONE;
    }

    public int listen(int loads) {
        if (!now.areWaiting(loads, Listener.MOST)) return NONE;
        return listener.goThrough(loads, NONE) > 0 ? listener.bestParting() : NONE;
    }

    public int army(int men) {
        if (men == NONE) {
            now.armyCount = 0;
            return 0;
        }
        if (outside(men, 1, 999) || now.armyCount >= MOST_ARMIES) return OTHERS;
        now.armies[now.armyCount] = men;
        now.armyCount++;
        return now.armyCount;
    }

    public int orders(int bridge, int pace, int i) {
        if (!now.hasBridge(bridge) || outside(pace, 1, 20) || now.armyCount == 0) return NONE;
        if (outside(i, NONE, now.armyCount - 1)) return NONE;
        int found = march.countOrders(now.row[Valley.STRING + bridge], pace);
        if (i == NONE) return found;
        return found > 0 ? march.first[i] : NONE;
    }

    public int game(int one, int other, int loads, boolean first) {
        if (!now.isUp(one) || !now.isUp(other) || one == other) return OTHERS;
        if (!now.areWaiting(loads, Match.MOST)) return OTHERS;
        ear.hearAll();
        if (ear.findFalse(1) > 0) return OTHERS;
        int opening = match.winningLoad(one, other, loads);
        if (first) return opening;
        return opening == NONE ? 0 : 1;
    }

    public int toll(int load, int bridge) {
        if (!now.doesWait(load) || !now.isUp(bridge)) return NONE;
        return ear.tollOf(load, bridge, now.borne(bridge) + now.weight[load], now.countOn(bridge) + 1);
    }

    public int rest(int loads, int load) {
        if (!now.areWaiting(loads, Rounds.MOST)) return NONE;
        if (load != NONE && !isIn(loads, load)) return NONE;
        int turns = rounds.turnsToRest(loads);
        return load == NONE || turns == NONE ? turns : rounds.place(load);
    }

    public int image() {
        kept.copy(now);
        return now.row[Valley.HOUR];
    }

    public int back() {
        now.copy(kept);
        return now.row[Valley.HOUR];
    }

    public int about(int what) {
        switch (what) {
            case 0: return now.bridges;
            case 1: return now.loads;
            case 2: return now.row[Valley.HOUR];
            case 3: return now.row[Valley.FROST];
            case 4: return now.row[Valley.X];
            case 5: return now.texts;
            case 6: return now.ruling;
            case 7: return now.stepCount;
            case 8: return now.heardCount;
            case 9: return now.armyCount;
            case 10: return tape.size;
            default: return OTHERS;
        }
    }

    private static boolean outside(int value, int least, int most) {
        return value < least || value > most;
    }

    private static boolean isIn(int set, int number) {
        return number >= 0 && number < 31 && (set >> number & 1) == 1;
    }

    /** Lists the numbers of a set from the lowest on, as far as there is room: how many. */
    private static int listed(int set, int[] into) {
        int count = 0;
        for (int i = 0; i < 31 && count < into.length; i++) {
            if (isIn(set, i)) {
                into[count] = i;
                count++;
            }
        }
        return count;
    }

    /** All that an image keeps. What a STEP can change lies in one row, so that taking it back is one copy. */
    private static final class Valley {
        static final int FIRST_X = 23;
        static final int MOST_STEPS = 30;
        static final int MOST_FALLS = 40;

        // The places in the row: six or twelve beside one another for BRIDGES and LOADS.
        static final int STRING = 0;
        static final int WEAR = 6;
        static final int DOWN = 12;
        static final int STANDER = 18;
        static final int WHERE = 24;
        static final int SINCE = 36;
        static final int FROST = 48;
        static final int HOUR = 49;
        static final int X = 50;
        static final int FELL = 51;
        static final int FALLS = 52;
        static final int ROW = FALLS + MOST_FALLS;

        int bridges;
        int loads;
        final int[] told = new int[MOST_BRIDGES];
        final int[] length = new int[MOST_BRIDGES];
        final int[] ears = new int[MOST_BRIDGES];
        final int[] weight = new int[MOST_LOADS];
        final int[] kind = new int[MOST_LOADS];
        final int[] purse = new int[MOST_LOADS];
        final int[] row = new int[ROW];
        final int[] steps = new int[MOST_STEPS * ROW];
        int firstStep;
        int stepCount;
        final int[] heardBridges = new int[MOST_HEARD];
        final int[] heardNotes = new int[MOST_HEARD];
        int heardCount;
        final int[] armies = new int[MOST_ARMIES];
        int armyCount;
        int texts;
        int ruling = NONE;

        Valley() {
            row[X] = FIRST_X;
            for (int load = 0; load < MOST_LOADS; load++) row[WHERE + load] = WAITS;
        }

        void copy(Valley from) {
            bridges = from.bridges;
            loads = from.loads;
            System.arraycopy(from.told, 0, told, 0, MOST_BRIDGES);
            System.arraycopy(from.length, 0, length, 0, MOST_BRIDGES);
            System.arraycopy(from.ears, 0, ears, 0, MOST_BRIDGES);
            System.arraycopy(from.weight, 0, weight, 0, MOST_LOADS);
            System.arraycopy(from.kind, 0, kind, 0, MOST_LOADS);
            System.arraycopy(from.purse, 0, purse, 0, MOST_LOADS);
            System.arraycopy(from.row, 0, row, 0, ROW);
            System.arraycopy(from.steps, 0, steps, 0, MOST_STEPS * ROW);
            firstStep = from.firstStep;
            stepCount = from.stepCount;
            System.arraycopy(from.heardBridges, 0, heardBridges, 0, MOST_HEARD);
            System.arraycopy(from.heardNotes, 0, heardNotes, 0, MOST_HEARD);
            heardCount = from.heardCount;
            System.arraycopy(from.armies, 0, armies, 0, MOST_ARMIES);
            armyCount = from.armyCount;
            texts = from.texts;
            ruling = from.ruling;
        }

        int addBridge(int string, int bridgeLength) {
            told[bridges] = string;
            length[bridges] = bridgeLength;
            row[STRING + bridges] = string;
            bridges++;
            return bridges - 1;
        }

        int addLoad(int loadWeight, int loadKind, int loadPurse) {
            weight[loads] = loadWeight;
            kind[loads] = loadKind;
            purse[loads] = loadPurse;
            loads++;
            return loads - 1;
        }

        boolean hasBridge(int bridge) {
            return bridge >= 0 && bridge < bridges;
        }

        boolean hasLoad(int load) {
            return load >= 0 && load < loads;
        }

        boolean isUp(int bridge) {
            return hasBridge(bridge) && row[DOWN + bridge] == 0;
        }

        boolean doesWait(int load) {
            return hasLoad(load) && row[WHERE + load] == WAITS;
        }

        boolean areWaiting(int set, int most) {
            return set > 0 && Integer.bitCount(set) <= most && (set & ~loadsWhere(WAITS)) == 0;
        }

        boolean areBridges(int set, int most) {
            return set > 0 && set < 1 << bridges && Integer.bitCount(set) <= most;
        }

        boolean areUp(int set) {
            for (int bridge = 0; bridge < bridges; bridge++) {
                if (isIn(set, bridge) && row[DOWN + bridge] != 0) return false;
            }
            return true;
        }

        /** The LOADS that are ON a BRIDGE, or WAIT (as bits). */
        int loadsWhere(int where) {
            int set = 0;
            for (int load = 0; load < loads; load++) {
                if (row[WHERE + load] == where) set |= 1 << load;
            }
            return set;
        }

        int countOn(int bridge) {
            return Integer.bitCount(loadsWhere(bridge));
        }

        int borne(int bridge) {
            int sum = row[STANDER + bridge];
            for (int load = 0; load < loads; load++) {
                if (row[WHERE + load] == bridge) sum += weight[load];
            }
            return sum;
        }

        /** Keeps the row as it is ahead of a STEP; of too many the eldest is given up. */
        void keepStep() {
            if (stepCount == MOST_STEPS) {
                firstStep = (firstStep + 1) % MOST_STEPS;
                stepCount--;
            }
            int slot = (firstStep + stepCount) % MOST_STEPS;
            System.arraycopy(row, 0, steps, slot * ROW, ROW);
            stepCount++;
        }

        void takeBack() {
            stepCount--;
            int slot = (firstStep + stepCount) % MOST_STEPS;
            System.arraycopy(steps, slot * ROW, row, 0, ROW);
            for (int bridge = 0; bridge < bridges; bridge++) {
                // No STRING: the BRIDGE was told behind this STEP. Nothing else of it was other than at first.
                if (row[STRING + bridge] == 0) row[STRING + bridge] = told[bridge];
            }
        }

        boolean sendOn(int load, int bridge) {
            if (!doesWait(load) || !isUp(bridge)) return false;
            keepStep();
            row[WHERE + load] = bridge;
            return true;
        }

        boolean repair(int bridge) {
            if (!needsMending(bridge)) return false;
            keepStep();
            makeWhole(bridge);
            return true;
        }

        boolean restring(int bridge, int string) {
            if (!hasBridge(bridge) || outside(string, 1, 60) || row[STRING + bridge] == string) return false;
            keepStep();
            row[STRING + bridge] = string;
            return true;
        }

        boolean freeze(int degree) {
            if (outside(degree, 0, 9) || row[FROST] == degree) return false;
            keepStep();
            row[FROST] = degree;
            return true;
        }

        boolean post(int bridge, int stander) {
            if (!isUp(bridge) || outside(stander, 0, 60) || row[STANDER + bridge] == stander) return false;
            keepStep();
            row[STANDER + bridge] = stander;
            return true;
        }

        private boolean needsMending(int bridge) {
            return hasBridge(bridge) && (row[WEAR + bridge] != 0 || row[DOWN + bridge] != 0);
        }

        private void makeWhole(int bridge) {
            row[WEAR + bridge] = 0;
            row[DOWN + bridge] = 0;
        }

        /** A draw is of X as it stands; the next X comes behind that. */
        int draw(int by) {
            int drawn = by > 0 ? row[X] % by : 0;
            row[X] = (row[X] * 227 + 113) % 30169;
            return drawn;
        }

        void drawGoing() {
            if (loads == 0 || bridges == 0) return;
            int load = draw(loads);
            int bridge = draw(bridges);
            if (doesWait(load) && isUp(bridge)) row[WHERE + load] = bridge;
        }

        void drawMending() {
            if (bridges == 0) return;
            int bridge = draw(bridges);
            if (needsMending(bridge)) makeWhole(bridge);
        }

        void collapse(int bridge) {
            writeFall(bridge);
            row[DOWN + bridge] = 1;
            row[STANDER + bridge] = 0;
            for (int load = 0; load < loads; load++) {
                if (row[WHERE + load] == bridge) leave(load, LOST);
            }
        }

        void moveOn() {
            for (int load = 0; load < loads; load++) {
                int bridge = row[WHERE + load];
                if (!hasBridge(bridge)) continue;
                row[SINCE + load]++;
                if (row[SINCE + load] == length[bridge]) leave(load, OVER);
            }
        }

        private void leave(int load, int where) {
            row[WHERE + load] = where;
            row[SINCE + load] = 0;
        }

        /** A fall is kept as one number (HOUR below 1000, WEAR below 100, BORNE below 1000): every STEP copies them. */
        private void writeFall(int bridge) {
            if (row[FELL] == MOST_FALLS) {
                System.arraycopy(row, FALLS + 1, row, FALLS, MOST_FALLS - 1);
                row[FELL]--;
            }
            int written = (bridge * 1000 + row[HOUR]) * 100 + row[WEAR + bridge];
            row[FALLS + row[FELL]] = written * 1000 + borne(bridge);
            row[FELL]++;
        }

        int ofFall(int i, int what) {
            int written = row[FALLS + i];
            switch (what) {
                case 0: return written / 100000000;
                case 1: return written / 100000 % 1000;
                case 2: return written / 1000 % 100;
                default: return written % 1000;
            }
        }
    }

    /** The bytes fed so far, and the TOKENS in them. */
    private static final class Tape {
        static final int MOST = 300;

        // TOKENS: the words by their place in WORDS, then the signs by theirs in SIGNS, then the rest.
        static final int NOTE = 0;
        static final int TUNE = 1;
        static final int HOLDS = 2;
        static final int TOLL = 3;
        static final int GO = 4;
        static final int HOUR = 5;
        static final int MEND = 6;
        static final int STRING = 7;
        static final int FROST = 8;
        static final int STAND = 9;
        static final int ON = 10;
        static final int TO = 11;
        static final int OR = 12;
        static final int AND = 13;
        static final int NOT = 14;
        static final int BRIDGE = 15;
        static final int STRUNG = 16;
        static final int LENGTH = 17;
        static final int WEAR = 18;
        static final int LOAD = 19;
        static final int MANY = 20;
        static final int UP = 21;
        static final int DOWN = 22;
        static final int LOW = 23;
        static final int HIGH = 24;
        static final int WEIGHT = 25;
        static final int KIND = 26;
        static final int SOUND = 27;
        static final int ALL_WORDS = 28;
        static final int LESS = 28;
        static final int AT_MOST = 29;
        static final int MORE = 30;
        static final int AT_LEAST = 31;
        static final int LIKE = 32;
        static final int UNLIKE = 33;
        static final int PLUS = 34;
        static final int MINUS = 35;
        static final int TIMES = 36;
        static final int BY = 37;
        static final int LEFT = 38;
        static final int OPEN = 39;
        static final int CLOSE = 40;
        static final int STOP = 41;
        static final int NUMBER = 42;
        static final int END = 43;
        static final int STRANGE = 44;
        /** Not read but made by the reader: a MINUS ahead of a ONE. */
        static final int NEGATE = 45;

        private static final int WIDTH = 6;
        private static final String WORDS = "note  tune  holds toll  go    hour  mend  stringfrost stand on    to    or    and   not   bridgestrunglengthwear  load  many  up    down  low   high  weightkind  sound ";
        /** The blanks keep the places of <= and >=; no blank is ever looked for. */
        private static final String SIGNS = "< > =#+-*/%();";

        final byte[] bytes = new byte[MOST];
        int size;
        int at;
        int first;
        int value;

        void addFour(int four) {
            for (int shift = 24; shift >= 0; shift -= 8) {
                if (size >= MOST) return;
                bytes[size] = (byte) (four >> shift);
                size++;
            }
        }

        /** Reads one TOKEN: what it is; its first byte is at first, a NUMBER's value in value. */
        int nextToken() {
            while (at < size && (bytes[at] == 32 || bytes[at] == 10)) at++;
            first = at;
            if (at >= size) return END;
            if (isLetter(at)) return nextWord();
            if (isDigit(at)) return nextNumber();
            return nextSign();
        }

        private boolean isLetter(int place) {
            int sign = bytes[place];
            return sign >= 'a' && sign <= 'z' || sign >= 'A' && sign <= 'Z';
        }

        private boolean isDigit(int place) {
            return bytes[place] >= '0' && bytes[place] <= '9';
        }

        private int nextWord() {
            while (at < size && isLetter(at)) at++;
            if (at - first > WIDTH) return STRANGE;
            for (int word = 0; word < ALL_WORDS; word++) {
                if (isWord(word)) return word;
            }
            return STRANGE;
        }

        private boolean isWord(int word) {
            for (int i = 0; i < WIDTH; i++) {
                int sign = first + i < at ? bytes[first + i] : ' ';
                if (WORDS.charAt(word * WIDTH + i) != sign) return false;
            }
            return true;
        }

        private int nextNumber() {
            value = 0;
            while (at < size && isDigit(at)) {
                // All above 9999 is one fault: 10000 stands for it, whatever the number of digits.
                value = Math.min(10000, value * 10 + bytes[at] - '0');
                at++;
            }
            return NUMBER;
        }

        private int nextSign() {
            int sign = SIGNS.indexOf((char) (bytes[at] & 255));
            at++;
            if (sign < 0) return STRANGE;
            int token = LESS + sign;
            if ((token == LESS || token == MORE) && at < size && bytes[at] == '=') {
                at++;
                token++;
            }
            return token;
        }
    }

    /** A TEXT that was read: its CLAUSES, and its laws as numbers, names and deeds, each deed behind what it is done to. */
    private static final class Score {
        static final int MOST_CLAUSES = 24;
        static final int LAWS = 4;
        static final int NAMED = 10000;
        static final int DEED = 20000;
        private static final int FAR = 1000000;

        final int[] kinds = new int[MOST_CLAUSES];
        final int[] firsts = new int[MOST_CLAUSES];
        final int[] seconds = new int[MOST_CLAUSES];
        int clauses;
        final int[] code = new int[Tape.MOST];
        int size;
        final int[] from = new int[LAWS];
        final int[] to = new int[LAWS];
        /** What stands open at once in a law is far less, as its depth is bounded. */
        private final int[] stack = new int[64];

        void clear() {
            clauses = 0;
            size = 0;
            Arrays.fill(from, 0);
            Arrays.fill(to, 0);
        }

        boolean has(int law) {
            return to[law] > 0;
        }

        void write(int item) {
            if (size >= Tape.MOST) return;
            code[size] = item;
            size++;
        }

        int value(int law, int[] names) {
            int top = 0;
            for (int i = from[law]; i < to[law]; i++) {
                int item = code[i];
                int deed = item - DEED;
                if (deed < 0) {
                    if (top >= stack.length) return 0;
                    stack[top] = item < NAMED ? item : names[item - NAMED];
                    top++;
                } else if (deed == Tape.NEGATE || deed == Tape.NOT) {
                    if (top < 1) return 0;
                    stack[top - 1] = deed == Tape.NOT ? 1 - stack[top - 1] : -stack[top - 1];
                } else {
                    if (top < 2) return 0;
                    top--;
                    stack[top - 1] = joined(deed, stack[top - 1], stack[top]);
                }
            }
            return stack[0];
        }

        private static int joined(int deed, int one, int other) {
            long value;
            switch (deed) {
                case Tape.OR: return one | other;
                case Tape.AND: return one & other;
                case Tape.LESS: return one < other ? 1 : 0;
                case Tape.AT_MOST: return one <= other ? 1 : 0;
                case Tape.MORE: return one > other ? 1 : 0;
                case Tape.AT_LEAST: return one >= other ? 1 : 0;
                case Tape.LIKE: return one == other ? 1 : 0;
                case Tape.UNLIKE: return one != other ? 1 : 0;
                case Tape.BY: return other == 0 ? 0 : one / other;
                case Tape.LEFT: return other == 0 ? 0 : one % other;
                case Tape.PLUS: value = (long) one + other; break;
                case Tape.MINUS: value = (long) one - other; break;
                default: value = (long) one * other; break;
            }
            if (value > FAR) return FAR;
            return value < -FAR ? -FAR : (int) value;
        }
    }

    /** Reads the tape TOKEN by TOKEN into a score; each TOKEN is taken, or it is the FAULT. */
    private static final class Reader {
        private static final int MOST_OPEN = 8;
        // By CLAUSE, from go on: the bounds of its NUMBERS and what stands behind the first one.
        private static final int[] FIRST_LEAST = {0, 1, 0, 0, 0, 0};
        private static final int[] FIRST_MOST = {11, 60, 5, 5, 9, 60};
        private static final int[] LINK = {Tape.ON, Tape.STOP, Tape.STOP, Tape.TO, Tape.STOP, Tape.ON};
        private static final int[] SECOND_LEAST = {0, 0, 0, 1, 0, 0};
        private static final int[] SECOND_MOST = {5, 0, 0, 60, 0, 5};

        /** Of the latest text that was read; NONE ahead of any. */
        int fault = NONE;
        int place = NONE;

        private final Tape tape;
        private Score score;
        private int clause;
        /** Of a CLAUSE that isn't a law: how many TOKENS it has behind its first. */
        private int part;
        // Of a law: what still waits to be written, how many of it are open, and what may come.
        private final int[] waiting = new int[64];
        private int height;
        private int depth;
        private int parens;
        private boolean wantsOne;
        private boolean atAsk;
        private boolean compared;

        Reader(Tape tape) {
            this.tape = tape;
        }

        boolean read(Score into) {
            score = into;
            score.clear();
            clause = NONE;
            fault = 0;
            place = NONE;
            tape.at = 0;
            // A TOKEN has a byte at least; one more round is for the end.
            for (int i = 0; i <= Tape.MOST; i++) {
                int token = tape.nextToken();
                if (token == Tape.END && clause == NONE) return true;
                fault = faultOf(token);
                if (fault != 0) {
                    place = tape.first;
                    return false;
                }
            }
            return true;
        }

        private int faultOf(int token) {
            if (clause == NONE) return begin(token);
            if (clause > Tape.TOLL) return takePart(token);
            return wantsOne ? takeOne(token) : takeJoint(token);
        }

        private int begin(int token) {
            if (token > Tape.STAND) return 1;
            if (token <= Tape.TOLL && score.has(token)) return 4;
            if (score.clauses >= Score.MOST_CLAUSES) return 6;
            clause = token;
            part = 0;
            score.kinds[score.clauses] = token;
            score.firsts[score.clauses] = 0;
            score.seconds[score.clauses] = 0;
            if (token <= Tape.TOLL) beginLaw(token);
            return 0;
        }

        private void beginLaw(int law) {
            score.from[law] = score.size;
            height = 0;
            depth = 0;
            parens = 0;
            wantsOne = true;
            atAsk = law == Tape.TUNE;
            compared = false;
        }

        private void close() {
            score.clauses++;
            clause = NONE;
        }

        private int takePart(int token) {
            int row = clause - Tape.GO;
            part++;
            if (part == 1) return takeNumber(token, score.firsts, FIRST_LEAST[row], FIRST_MOST[row]);
            if (part == 3) return takeNumber(token, score.seconds, SECOND_LEAST[row], SECOND_MOST[row]);
            int due = part == 2 ? LINK[row] : Tape.STOP;
            if (token != due) return 1;
            if (token == Tape.STOP) close();
            return 0;
        }

        private int takeNumber(int token, int[] into, int least, int most) {
            if (token != Tape.NUMBER) return 1;
            if (outside(tape.value, least, most)) return 2;
            into[score.clauses] = tape.value;
            return 0;
        }

        private int takeOne(int token) {
            if (token == Tape.NUMBER) {
                if (tape.value > 9999) return 2;
                score.write(tape.value);
                endOne();
                return 0;
            }
            if (isName(token)) {
                if (!isOfClause(token)) return 5;
                score.write(Score.NAMED + token);
                endOne();
                return 0;
            }
            return takeOpening(token);
        }

        private int takeOpening(int token) {
            boolean isNot = token == Tape.NOT && atAsk;
            if (!isNot && token != Tape.OPEN && token != Tape.MINUS) return 1;
            if (depth >= MOST_OPEN) return 3;
            depth++;
            if (token == Tape.OPEN) parens++;
            atAsk = isNot;
            push(token == Tape.MINUS ? Tape.NEGATE : token);
            return 0;
        }

        /** A ONE is whole; a - that waited for it is written with whatever comes next, as nothing holds more tightly. */
        private void endOne() {
            wantsOne = false;
            atAsk = false;
        }

        private int takeJoint(int token) {
            if (token == Tape.CLOSE) return takeClose();
            if (token >= Tape.PLUS && token <= Tape.LEFT) return join(token);
            if (parens > 0) return 1;
            if (token == Tape.STOP) return takeStop();
            if (token >= Tape.LESS && token <= Tape.UNLIKE) {
                if (clause != Tape.TUNE || compared) return 1;
                compared = true;
                return join(token);
            }
            if (token != Tape.AND && token != Tape.OR || !compared) return 1;
            compared = false;
            atAsk = true;
            return join(token);
        }

        private int takeClose() {
            if (parens == 0) return 1;
            writeDownTo(rank(Tape.OR));
            if (height > 0) height--;
            parens--;
            depth--;
            return 0;
        }

        private int takeStop() {
            if (clause == Tape.TUNE && !compared) return 1;
            writeDownTo(rank(Tape.OR));
            score.to[clause] = score.size;
            close();
            return 0;
        }

        private int join(int token) {
            writeDownTo(rank(token));
            push(token);
            wantsOne = true;
            return 0;
        }

        private void push(int token) {
            if (height >= waiting.length) return;
            waiting[height] = token;
            height++;
        }

        private void writeDownTo(int least) {
            while (height > 0 && rank(waiting[height - 1]) >= least) {
                height--;
                int token = waiting[height];
                if (token == Tape.NEGATE || token == Tape.NOT) depth--;
                score.write(Score.DEED + token);
            }
        }

        /** How tightly it holds what stands beside it; ( holds nothing till its ) comes. */
        private static int rank(int token) {
            switch (token) {
                case Tape.OPEN: return 0;
                case Tape.OR: return 1;
                case Tape.AND: return 2;
                case Tape.NOT: return 3;
                case Tape.PLUS: case Tape.MINUS: return 5;
                case Tape.TIMES: case Tape.BY: case Tape.LEFT: return 6;
                case Tape.NEGATE: return 7;
                default: return 4;
            }
        }

        private static boolean isName(int token) {
            return token == Tape.HOUR || token == Tape.FROST || token >= Tape.BRIDGE && token < Tape.ALL_WORDS;
        }

        private boolean isOfClause(int name) {
            if (name == Tape.HOUR || name == Tape.FROST) return true;
            if (name <= Tape.WEAR) return clause != Tape.TUNE;
            if (name <= Tape.MANY) return clause == Tape.NOTE || clause == Tape.TOLL;
            return name <= Tape.HIGH ? clause == Tape.TUNE : clause == Tape.TOLL;
        }
    }

    /** What sounds, and what is out of tune: the laws of THE TEXT, over the valley as it is or as it would be. */
    private static final class Ear {
        static final int MOST_FALSE = 15;

        /** The NOTES that are listened to: as all stands, or as a search sets them. */
        final int[] notes = new int[MOST_BRIDGES];
        /** What findFalse found: each six times the lower and the higher. */
        final int[] falseTwos = new int[MOST_FALSE];
        /** How many HOURS from now on it is that is listened to. */
        int ahead;

        private final Valley valley;
        private final Score[] scores;
        private final int[] names = new int[Tape.ALL_WORDS];
        private final int[] rowBefore = new int[Valley.ROW];

        Ear(Valley valley, Score[] scores) {
            this.valley = valley;
            this.scores = scores;
        }

        private Score ruling(int law) {
            int text = valley.ruling;
            if (text < 0 || text >= scores.length || scores[text] == null) return null;
            return scores[text].has(law) ? scores[text] : null;
        }

        private void nameTime() {
            names[Tape.FROST] = valley.row[Valley.FROST];
            names[Tape.HOUR] = valley.row[Valley.HOUR] + ahead;
        }

        private void nameBridge(int bridge, int strung) {
            nameTime();
            names[Tape.BRIDGE] = bridge;
            names[Tape.STRUNG] = strung;
            names[Tape.LENGTH] = valley.length[bridge];
            names[Tape.WEAR] = valley.row[Valley.WEAR + bridge];
        }

        int noteOf(int bridge, int borne, int many) {
            return noteStrung(bridge, valley.row[Valley.STRING + bridge], borne, many);
        }

        int noteStrung(int bridge, int strung, int borne, int many) {
            if (borne == 0 || valley.row[Valley.DOWN + bridge] != 0) return 0;
            Score score = ruling(Tape.NOTE);
            int note = strung + borne;
            if (score != null) {
                nameBridge(bridge, strung);
                names[Tape.LOAD] = borne;
                names[Tape.MANY] = many;
                note = score.value(Tape.NOTE, names);
            }
            return Math.max(1, Math.min(TOP_NOTE, note));
        }

        int holdsNow(int bridge) {
            Score score = ruling(Tape.HOLDS);
            if (score == null) return 3;
            nameBridge(bridge, valley.row[Valley.STRING + bridge]);
            return Math.max(1, Math.min(99, score.value(Tape.HOLDS, names)));
        }

        /** The TOLL of a LOAD on a BRIDGE that bears so much and so many with it. */
        int tollOf(int load, int bridge, int borne, int many) {
            Score score = ruling(Tape.TOLL);
            if (score == null) return valley.weight[load];
            int strung = valley.row[Valley.STRING + bridge];
            names[Tape.SOUND] = noteStrung(bridge, strung, borne, many);
            nameBridge(bridge, strung);
            names[Tape.LOAD] = borne;
            names[Tape.MANY] = many;
            names[Tape.WEIGHT] = valley.weight[load];
            names[Tape.KIND] = valley.kind[load];
            return Math.max(0, Math.min(999, score.value(Tape.TOLL, names)));
        }

        /** Whether two NOTES that are heard together are FALSE. */
        boolean clash(int one, int other) {
            if (one <= 0 || other <= 0) return false;
            int low = Math.min(one, other);
            int high = Math.max(one, other);
            int measure = commonMeasure(high, low);
            Score score = ruling(Tape.TUNE);
            // down is never above up.
            if (score == null) return high / measure >= 7;
            nameTime();
            names[Tape.UP] = high / measure;
            names[Tape.DOWN] = low / measure;
            names[Tape.LOW] = low;
            names[Tape.HIGH] = high;
            return score.value(Tape.TUNE, names) == 0;
        }

        private static int commonMeasure(int high, int low) {
            int one = high;
            int other = low;
            // Two numbers below 1000 need at most some fifteen rounds.
            for (int i = 0; i < 40 && other > 0; i++) {
                int left = one % other;
                one = other;
                other = left;
            }
            return Math.max(1, one);
        }

        void hearAll() {
            for (int bridge = 0; bridge < valley.bridges; bridge++) {
                int strung = valley.row[Valley.STRING + bridge];
                notes[bridge] = noteStrung(bridge, strung, valley.borne(bridge), valley.countOn(bridge));
            }
        }

        /** Lists the TWO that are FALSE by the NOTES listened to, by the lower, then the higher, till there are enough: how many. */
        int findFalse(int enough) {
            int found = 0;
            for (int one = 0; one < valley.bridges; one++) {
                for (int other = one + 1; other < valley.bridges && found < enough; other++) {
                    if (!isIn(valley.ears[one], other) || !clash(notes[one], notes[other])) continue;
                    falseTwos[found] = one * MOST_BRIDGES + other;
                    found++;
                }
            }
            return found;
        }

        private int falseBridges() {
            int found = findFalse(MOST_FALSE);
            int set = 0;
            for (int i = 0; i < found; i++) {
                set |= 1 << falseTwos[i] / MOST_BRIDGES | 1 << falseTwos[i] % MOST_BRIDGES;
            }
            return set;
        }

        /** An HOUR passes: how many fell. */
        int passHour() {
            hearAll();
            int worn = falseBridges();
            int fell = 0;
            for (int bridge = 0; bridge < valley.bridges; bridge++) {
                if (!isIn(worn, bridge)) continue;
                valley.row[Valley.WEAR + bridge]++;
                if (valley.row[Valley.WEAR + bridge] < holdsNow(bridge)) continue;
                valley.collapse(bridge);
                fell++;
            }
            valley.moveOn();
            valley.row[Valley.HOUR]++;
            return fell;
        }

        /** In which of the next n HOURS the first BRIDGE falls. */
        int firstFall(int n) {
            System.arraycopy(valley.row, 0, rowBefore, 0, Valley.ROW);
            int first = NONE;
            for (int i = 1; i <= n && first == NONE; i++) {
                if (passHour() > 0) first = i;
            }
            System.arraycopy(rowBefore, 0, valley.row, 0, Valley.ROW);
            return first;
        }

        int downThen(int n) {
            System.arraycopy(valley.row, 0, rowBefore, 0, Valley.ROW);
            for (int i = 0; i < n; i++) passHour();
            int down = 0;
            for (int bridge = 0; bridge < valley.bridges; bridge++) {
                if (valley.row[Valley.DOWN + bridge] != 0) down |= 1 << bridge;
            }
            System.arraycopy(rowBefore, 0, valley.row, 0, Valley.ROW);
            return down;
        }
    }

    /** A PLAN: tries when each LOAD goes. What sounds in an HOUR hangs on who of them is on then, so that is asked once. */
    private static final class Planner {
        static final int MOST = 4;
        private static final int WAITINGS = 6;
        /** The longest: going behind 5 HOURS over a LENGTH of 9. */
        private static final int MOST_HOURS = 14;
        private static final int SETS = 1 << MOST;
        private static final int UNASKED = 0;
        private static final int TUNED = 1;
        private static final int CLASHING = 2;

        private final Valley valley;
        private final Ear ear;
        private final int[] members = new int[MOST];
        private final int[] bridges = new int[MOST];
        private final int[] waits = new int[MOST];
        private final int[] best = new int[MOST];
        private final int[] sounds = new int[MOST_HOURS * SETS];
        private int count;

        Planner(Valley valley, Ear ear) {
            this.valley = valley;
            this.ear = ear;
        }

        /** Takes the LOADS and the digits of their BRIDGES: whether these are such as can be. */
        boolean isGiven(int set, int digits) {
            count = listed(set, members);
            int left = digits;
            for (int i = 0; i < count; i++) {
                bridges[i] = left % MOST_BRIDGES;
                left /= MOST_BRIDGES;
                if (!valley.isUp(bridges[i])) return false;
            }
            return digits >= 0 && left == 0;
        }

        /** In how many HOURS all are OVER by the best PLAN. */
        int soonest() {
            Arrays.fill(sounds, UNASKED);
            int ways = 1;
            for (int i = 0; i < count; i++) ways *= WAITINGS;
            int lasting = hoursOfThoseOn();
            int fewest = MOST_HOURS + 1;
            for (int way = 0; way < ways; way++) {
                spreadWaits(way);
                int hours = Math.max(lasting, hoursOfMembers());
                if (hours >= fewest || !staysTuned(hours)) continue;
                fewest = hours;
                System.arraycopy(waits, 0, best, 0, MOST);
            }
            return fewest <= MOST_HOURS ? fewest : NONE;
        }

        int waitOf(int load) {
            for (int i = 0; i < count; i++) {
                if (members[i] == load) return best[i];
            }
            return NONE;
        }

        /** The first LOAD has the highest digit, so that the lowest way of like ones is the one asked for. */
        private void spreadWaits(int way) {
            int left = way;
            for (int i = count - 1; i >= 0; i--) {
                waits[i] = left % WAITINGS;
                left /= WAITINGS;
            }
        }

        private int hoursOfThoseOn() {
            int hours = 0;
            for (int load = 0; load < valley.loads; load++) {
                int bridge = valley.row[Valley.WHERE + load];
                if (!valley.hasBridge(bridge)) continue;
                hours = Math.max(hours, valley.length[bridge] - valley.row[Valley.SINCE + load]);
            }
            return hours;
        }

        private int hoursOfMembers() {
            int hours = 0;
            for (int i = 0; i < count; i++) hours = Math.max(hours, waits[i] + valley.length[bridges[i]]);
            return hours;
        }

        private boolean staysTuned(int hours) {
            for (int hour = 0; hour < hours && hour < MOST_HOURS; hour++) {
                int set = 0;
                for (int i = 0; i < count; i++) {
                    if (waits[i] <= hour && hour < waits[i] + valley.length[bridges[i]]) set |= 1 << i;
                }
                int asked = hour * SETS + set;
                if (sounds[asked] == UNASKED) sounds[asked] = isTuned(hour, set) ? TUNED : CLASHING;
                if (sounds[asked] == CLASHING) return false;
            }
            return true;
        }

        private boolean isTuned(int hour, int set) {
            ear.ahead = hour;
            for (int bridge = 0; bridge < valley.bridges; bridge++) ear.notes[bridge] = noteThen(bridge, hour, set);
            boolean tuned = ear.findFalse(1) == 0;
            ear.ahead = 0;
            return tuned;
        }

        private int noteThen(int bridge, int hour, int set) {
            int borne = valley.row[Valley.STANDER + bridge];
            int many = 0;
            for (int load = 0; load < valley.loads; load++) {
                if (valley.row[Valley.WHERE + load] != bridge) continue;
                if (valley.row[Valley.SINCE + load] + hour >= valley.length[bridge]) continue;
                borne += valley.weight[load];
                many++;
            }
            for (int i = 0; i < count; i++) {
                if (!isIn(set, i) || bridges[i] != bridge) continue;
                borne += valley.weight[members[i]];
                many++;
            }
            return ear.noteStrung(bridge, valley.row[Valley.STRING + bridge], borne, many);
        }
    }

    /** Chooses parts or STRINGS for BRIDGES of a set: the cheapest choice by which nothing is FALSE, of like ones the lowest. */
    private static final class Chooser {
        static final int MOST = 4;
        static final int REACH = 5;
        private static final int OPTIONS = 61;
        /** Marks a row of fitting options as worked out: options take the bits 0 to 60. */
        private static final long KNOWN = 1L << 62;

        private final Valley valley;
        private final Ear ear;
        private final int[] members = new int[MOST];
        private final int[] chosen = new int[MOST];
        private final int[] notes = new int[MOST * OPTIONS];
        private final long[] alone = new long[MOST];
        private final long[] fits = new long[MOST * (MOST - 1) / 2 * OPTIONS];
        private int count;
        private int options;
        private boolean sharing;

        Chooser(Valley valley, Ear ear) {
            this.valley = valley;
            this.ear = ear;
        }

        /** How many parts above 0. */
        int share(int weight, int set) {
            sharing = true;
            begin(set, weight + 1);
            for (int i = 0; i < count; i++) {
                int bridge = members[i];
                int borne = valley.borne(bridge);
                int many = valley.countOn(bridge);
                for (int part = 0; part < options; part++) {
                    notes[i * OPTIONS + part] = ear.noteOf(bridge, borne + part, part > 0 ? many + 1 : many);
                    alone[i] |= 1L << part;
                }
            }
            return cheapest(set, weight);
        }

        /** By how much all STRINGS change together. */
        int retune(int set) {
            sharing = false;
            begin(set, 2 * REACH + 1);
            for (int i = 0; i < count; i++) {
                int bridge = members[i];
                int borne = valley.borne(bridge);
                int many = valley.countOn(bridge);
                for (int option = 0; option < options; option++) {
                    int strung = valley.row[Valley.STRING + bridge] - REACH + option;
                    if (outside(strung, 1, 60)) continue;
                    notes[i * OPTIONS + option] = ear.noteStrung(bridge, strung, borne, many);
                    alone[i] |= 1L << option;
                }
            }
            return cheapest(set, 0);
        }

        int choice(int bridge) {
            for (int i = 0; i < count; i++) {
                if (members[i] == bridge) return chosen[i];
            }
            return NONE;
        }

        private void begin(int set, int optionCount) {
            count = listed(set, members);
            options = Math.min(OPTIONS, optionCount);
            Arrays.fill(alone, 0L);
            Arrays.fill(fits, 0L);
        }

        private int cheapest(int set, int weight) {
            ear.hearAll();
            if (othersClash(set)) return NONE;
            dropClashing(set);
            int dearest = sharing ? count : count * REACH;
            for (int cost = 0; cost <= dearest; cost++) {
                if (choose(0, cost, weight)) return cost;
            }
            return NONE;
        }

        private boolean othersClash(int set) {
            for (int one = 0; one < valley.bridges; one++) {
                for (int other = one + 1; other < valley.bridges; other++) {
                    if (isIn(set, one) || isIn(set, other) || !isIn(valley.ears[one], other)) continue;
                    if (ear.clash(ear.notes[one], ear.notes[other])) return true;
                }
            }
            return false;
        }

        /** Drops the options that are FALSE with a BRIDGE that isn't of the set. */
        private void dropClashing(int set) {
            for (int i = 0; i < count; i++) {
                for (int bridge = 0; bridge < valley.bridges; bridge++) {
                    if (isIn(set, bridge) || !isIn(valley.ears[members[i]], bridge)) continue;
                    for (int option = 0; option < options; option++) {
                        if (ear.clash(notes[i * OPTIONS + option], ear.notes[bridge])) alone[i] &= ~(1L << option);
                    }
                }
            }
        }

        private int costOf(int option) {
            if (sharing) return option > 0 ? 1 : 0;
            return Math.abs(option - REACH);
        }

        /** Chooses for the members from the i-th on at just that cost; what is left of the weight goes to them whole. */
        private boolean choose(int i, int cost, int left) {
            if (i >= count) return cost == 0 && left == 0;
            int from = sharing && i == count - 1 ? left : 0;
            int to = sharing ? left : options - 1;
            long open = alone[i];
            for (int early = 0; early < i; early++) open &= fitting(early, i);
            for (int option = from; option <= to; option++) {
                if ((open >> option & 1L) == 0 || costOf(option) > cost) continue;
                chosen[i] = option;
                if (choose(i + 1, cost - costOf(option), sharing ? left - option : left)) return true;
            }
            return false;
        }

        /** Which options of a member aren't FALSE with what an earlier one has chosen; worked out once, as many ways come by it. */
        private long fitting(int early, int late) {
            int at = (late * (late - 1) / 2 + early) * OPTIONS + chosen[early];
            if (fits[at] != 0) return fits[at];
            boolean together = isIn(valley.ears[members[early]], members[late]);
            int note = notes[early * OPTIONS + chosen[early]];
            long fitting = KNOWN;
            for (int option = 0; option < options; option++) {
                if (!together || !ear.clash(note, notes[late * OPTIONS + option])) fitting |= 1L << option;
            }
            fits[at] = fitting;
            return fitting;
        }
    }

    /** What can be told by listening: which LOADS, a hidden weight, the worlds that fit what was HEARD. */
    private static final class Listener {
        static final int MOST = 5;
        private static final int SETS = 1 << MOST;
        private static final int MOST_HIDDEN = 99;

        private final Valley valley;
        private final Ear ear;
        private final int[] members = new int[MOST];
        private final int[] places = new int[MOST];
        private final int[] on = new int[MOST_BRIDGES];
        /** By BRIDGE and set of members on it: its NOTE, and in how many WORLDS that is so. */
        private final int[] notes = new int[MOST_BRIDGES * SETS];
        private final int[] tally = new int[MOST_BRIDGES * SETS];
        private int count;
        private int seen;
        private int wanted;

        Listener(Valley valley, Ear ear) {
            this.valley = valley;
            this.ear = ear;
        }

        int loadSet(int bridge, int note, int i) {
            int others = ~valley.loadsWhere(WAITS);
            int found = 0;
            for (int set = 0; set < 1 << valley.loads; set++) {
                if ((set & others) != 0) continue;
                int borne = valley.row[Valley.STANDER + bridge];
                for (int load = 0; load < valley.loads; load++) {
                    if (isIn(set, load)) borne += valley.weight[load];
                }
                if (ear.noteOf(bridge, borne, Integer.bitCount(set)) != note) continue;
                if (found == i) return set;
                found++;
            }
            return i == NONE ? found : NONE;
        }

        int leastMore(int bridge, int note) {
            int borne = valley.borne(bridge);
            int many = valley.countOn(bridge);
            for (int more = 0; more <= MOST_HIDDEN; more++) {
                if (ear.noteOf(bridge, borne + more, many) == note) return more;
            }
            return NONE;
        }

        int countMore(int bridge, int note) {
            int borne = valley.borne(bridge);
            int many = valley.countOn(bridge);
            int found = 0;
            for (int more = 0; more <= MOST_HIDDEN; more++) {
                if (ear.noteOf(bridge, borne + more, many) == note) found++;
            }
            return found;
        }

        /** Goes through the WORLDS of a set till the one wanted, or (NONE) through all: how many it came by. */
        int goThrough(int set, int wantedWorld) {
            count = listed(set, members);
            wanted = wantedWorld;
            seen = 0;
            Arrays.fill(on, 0);
            Arrays.fill(tally, 0);
            soundSets();
            spread(0);
            return seen;
        }

        int place(int load) {
            for (int i = 0; i < count; i++) {
                if (members[i] == load) return places[i];
            }
            return NONE;
        }

        private void soundSets() {
            for (int bridge = 0; bridge < valley.bridges; bridge++) {
                int borne = valley.borne(bridge);
                int many = valley.countOn(bridge);
                for (int set = 0; set < 1 << count; set++) {
                    int sum = borne;
                    for (int i = 0; i < count; i++) {
                        if (isIn(set, i)) sum += valley.weight[members[i]];
                    }
                    notes[bridge * SETS + set] = ear.noteOf(bridge, sum, many + Integer.bitCount(set));
                }
            }
        }

        /** Spreads the members from the i-th on, none ahead of all BRIDGES: whether the wanted world is reached. */
        private boolean spread(int i) {
            if (i >= count) return isWanted();
            places[i] = AWAY;
            if (spread(i + 1)) return true;
            for (int bridge = 0; bridge < valley.bridges; bridge++) {
                if (!valley.isUp(bridge)) continue;
                places[i] = bridge;
                on[bridge] |= 1 << i;
                boolean reached = spread(i + 1);
                on[bridge] &= ~(1 << i);
                if (reached) return true;
            }
            return false;
        }

        private boolean isWanted() {
            for (int i = 0; i < valley.heardCount; i++) {
                int bridge = valley.heardBridges[i];
                if (notes[bridge * SETS + on[bridge]] != valley.heardNotes[i]) return false;
            }
            for (int bridge = 0; bridge < valley.bridges; bridge++) tally[bridge * SETS + on[bridge]]++;
            seen++;
            return seen - 1 == wanted;
        }

        int bestParting() {
            int best = NONE;
            int fewest = 0;
            for (int bridge = 0; bridge < valley.bridges; bridge++) {
                int most = mostAlike(bridge);
                if (best != NONE && most >= fewest) continue;
                best = bridge;
                fewest = most;
            }
            return best;
        }

        private int mostAlike(int bridge) {
            int most = 0;
            for (int set = 0; set < 1 << count; set++) {
                int alike = 0;
                for (int other = 0; other < 1 << count; other++) {
                    if (notes[bridge * SETS + other] == notes[bridge * SETS + set]) alike += tally[bridge * SETS + other];
                }
                most = Math.max(most, alike);
            }
            return most;
        }
    }

    /** ORDERS of all ARMIES over a BRIDGE. */
    private static final class March {
        final int[] first = new int[MOST_ARMIES];

        private final Valley valley;
        private final int[] order = new int[MOST_ARMIES];
        private int string;
        private int pace;
        private int found;

        March(Valley valley) {
            this.valley = valley;
        }

        int countOrders(int bridgeString, int marchPace) {
            string = Math.max(1, bridgeString);
            pace = marchPace;
            found = 0;
            send(0, 0, 0);
            return found;
        }

        private void send(int place, int sent, int men) {
            if (place >= valley.armyCount) {
                if (found == 0) System.arraycopy(order, 0, first, 0, MOST_ARMIES);
                found++;
                return;
            }
            for (int army = 0; army < valley.armyCount; army++) {
                int sum = men + valley.armies[army];
                if (isIn(sent, army) || sum * pace % string == 0) continue;
                order[place] = army;
                send(place + 1, sent | 1 << army, sum);
            }
        }
    }

    /** A GAME of two BRIDGES, played out to its end. */
    private static final class Match {
        static final int MOST = 6;

        private final Valley valley;
        private final Ear ear;
        private final int[] members = new int[MOST];
        private final int[] bridges = new int[2];
        private final int[] borne = new int[2];
        private final int[] many = new int[2];
        private int count;
        private int opening;

        Match(Valley valley, Ear ear) {
            this.valley = valley;
            this.ear = ear;
        }

        /** The lowest LOAD by which the one who begins wins; the NOTES listened to are as all stands. */
        int winningLoad(int one, int other, int set) {
            count = listed(set, members);
            seat(0, one);
            seat(1, other);
            opening = NONE;
            wins(0, 0);
            return opening;
        }

        private void seat(int side, int bridge) {
            bridges[side] = bridge;
            borne[side] = valley.borne(bridge);
            many[side] = valley.countOn(bridge);
        }

        /** Whether the one whose turn it is wins; the NOTES listened to are as the game stands. */
        private boolean wins(int turn, int put) {
            if (turn >= count) return true;
            int side = turn & 1;
            int bridge = bridges[side];
            int before = ear.notes[bridge];
            for (int i = 0; i < count; i++) {
                if (isIn(put, i)) continue;
                int weight = valley.weight[members[i]];
                borne[side] += weight;
                many[side]++;
                ear.notes[bridge] = ear.noteOf(bridge, borne[side], many[side]);
                boolean won = ear.findFalse(1) == 0 && !wins(turn + 1, put | 1 << i);
                borne[side] -= weight;
                many[side]--;
                ear.notes[bridge] = before;
                if (!won) continue;
                if (turn == 0) opening = members[i];
                return true;
            }
            return false;
        }
    }

    /** Who goes where by TOLLS, turn by turn, till all is AT REST. */
    private static final class Rounds {
        static final int MOST = 6;
        private static final int MOST_TURNS = 40;

        private final Valley valley;
        private final Ear ear;
        private final int[] members = new int[MOST];
        private final int[] places = new int[MOST];
        private int count;

        Rounds(Valley valley, Ear ear) {
            this.valley = valley;
            this.ear = ear;
        }

        int turnsToRest(int set) {
            count = listed(set, members);
            Arrays.fill(places, AWAY);
            for (int turn = 1; turn <= MOST_TURNS; turn++) {
                if (!doesTurnChange()) return turn;
            }
            return NONE;
        }

        int place(int load) {
            for (int i = 0; i < count; i++) {
                if (members[i] == load) return places[i];
            }
            return NONE;
        }

        private boolean doesTurnChange() {
            boolean changed = false;
            for (int i = 0; i < count; i++) {
                int before = places[i];
                places[i] = AWAY;
                places[i] = cheapest(members[i]);
                if (places[i] != before) changed = true;
            }
            return changed;
        }

        private int cheapest(int load) {
            int best = AWAY;
            int least = valley.purse[load] + 1;
            for (int bridge = 0; bridge < valley.bridges; bridge++) {
                if (!valley.isUp(bridge)) continue;
                int borne = valley.borne(bridge) + weightPut(bridge) + valley.weight[load];
                int many = valley.countOn(bridge) + countPut(bridge) + 1;
                int toll = ear.tollOf(load, bridge, borne, many);
                if (toll >= least) continue;
                best = bridge;
                least = toll;
            }
            return best;
        }

        private int weightPut(int bridge) {
            int sum = 0;
            for (int i = 0; i < count; i++) {
                if (places[i] == bridge) sum += valley.weight[members[i]];
            }
            return sum;
        }

        private int countPut(int bridge) {
            int sum = 0;
            for (int i = 0; i < count; i++) {
                if (places[i] == bridge) sum++;
            }
            return sum;
        }
    }
}
