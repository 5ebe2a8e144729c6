import java.util.NoSuchElementException;

/** Locks that open to four notes at once, and barges that hire singers for them. */
public final class LocksBySong {
    public static final int NONE = -1;

    private static final int LOCKS = 0;
    private static final int SINGERS = 1;
    private static final int BARGES = 2;
    private static final int MOST_LOCKS = 8;
    private static final int MOST_SINGERS = 8;
    private static final int MOST_BARGES = 4;
    private static final int NOTES = 26;
    private static final int VOICES = 4;
    private static final int ALL_FOUR = 15;
    private static final int MOST_TIRED = 9;
    private static final int MOST_FEE = 99;
    private static final int MOST_WATER = 999;
    private static final int MOST_REST = 600;
    private static final int DAY_SIGNS = 60;
    private static final int KEPT = 3;
    private static final int NOT_SO = -2;
    private static final int NO_SONG = -3;
    private static final int NO_WATER = -4;
    private static final int NEVER = 9999;

    private final Script text = new Script();
    private final Numbers told = new Numbers();
    private final Canal canal = new Canal();
    private final Moment now = new Moment();
    private final Moment before = new Moment();
    private final Moment trial = new Moment();
    private final Choir choir = new Choir(canal);
    private final Voyage voyage = new Voyage(canal, choir);
    private final Hiring hiring = new Hiring(canal, choir);
    private final Night night = new Night(canal);
    private final Waiting waiting = new Waiting();
    private final Past past = new Past();
    private final Moment[] kept = new Moment[KEPT];
    private final int[] acts = new int[DAY_SIGNS];
    private int keptBits;

    public LocksBySong() {
        for (int i = 0; i < KEPT; i++) {
            kept[i] = new Moment();
        }
    }

    // ---- the canal, singers, barges

    public int sign(int v) {
        return text.addFour(v) ? text.length() : NONE;
    }

    public boolean end(int n) {
        return text.cutTo(n);
    }

    public int locks() {
        return tellOf(LOCKS, 47);
    }

    public int singers() {
        return tellOf(SINGERS, 63);
    }

    public int barges() {
        return tellOf(BARGES, 11);
    }

    public int rule() {
        int answer = canal.rule.read(text);
        text.clear();
        return answer;
    }

    public int lock(int lock, int what) throws NoSuchElementException {
        if (!canal.hasLock(lock) || what < 0 || what > 5) {
            throw new NoSuchElementException();
        }
        if (what < VOICES) {
            return canal.chords[lock * VOICES + what];
        }
        return what == 4 ? canal.held[lock] : now.levelOf(lock);
    }

    public int singer(int singer, int what) throws NoSuchElementException {
        if (!canal.hasSinger(singer) || what < 0 || what > 5) {
            throw new NoSuchElementException();
        }
        switch (what) {
            case 0:
                return canal.low[singer];
            case 1:
                return canal.high[singer];
            case 2:
                return canal.fee[singer];
            case 3:
                return now.tired[singer];
            case 4:
                return now.whereIs(singer);
            default:
                return now.boat[singer];
        }
    }

    public int barge(int barge, int what) throws NoSuchElementException {
        if (!canal.hasBarge(barge) || what < 0 || what > 3) {
            throw new NoSuchElementException();
        }
        switch (what) {
            case 0:
                return now.berth[barge];
            case 1:
                return canal.load[barge];
            case 2:
                return now.purse[barge];
            default:
                return canal.crewOf(now, barge);
        }
    }

    public int set(int what, int v) {
        if (what == 0 && v >= 0 && v <= MOST_WATER) {
            int was = now.water;
            now.water = v;
            return was;
        }
        if (what == 1 && v >= 0 && v < (1 << NOTES)) {
            int was = canal.jammed;
            canal.jammed = v;
            return was;
        }
        return NONE;
    }

    public int sheet(int kind, int n, int f, int step) {
        if (kind < 0 || kind > 3 || n > MOST_SINGERS) {
            return NONE;
        }
        if (kind == 3) {
            canal.takeFees(kind, 0, 0, 0);
            return -3;
        }
        return n < 0 ? NOT_SO : canal.takeFees(kind, n, f, step);
    }

    private int tellOf(int kind, int most) {
        text.open(most);
        int lines = text.over() ? 0 : readLines(kind);
        text.clear();
        if (lines > 0) {
            canal.grow(kind, lines);
            past.clear();
            keptBits = 0;
        }
        return lines;
    }

    /** How many lines there are, or the fault; nothing counts before the canal grows by them. */
    private int readLines(int kind) {
        int had = canal.many(kind);
        int room = canal.room(kind);
        for (int k = had; k < room; k++) {
            if (!canal.readLine(kind, k, text, now)) {
                return text.fault();
            }
            if (text.over()) {
                return k + 1 - had;
            }
            if (text.take(';', ';') < 0) {
                return text.fault();
            }
        }
        return text.fault();
    }

    // ---- minutes

    public int hire(int barge, int singer) {
        before.copy(now);
        return remember(takeOn(barge, singer));
    }

    public int leave(int singer) {
        before.copy(now);
        return remember(letGo(singer));
    }

    public int pass(int barge, int up) {
        before.copy(now);
        int minutes = voyage.go(now, barge, up);
        if (minutes >= 0) {
            tellSong();
        }
        return remember(minutes);
    }

    public int rest(int n) {
        before.copy(now);
        return remember(takeRest(n));
    }

    public int day() {
        text.open(DAY_SIGNS);
        int many = text.over() ? 0 : readActs();
        text.clear();
        if (many < 0) {
            return many;
        }
        before.copy(now);
        int done = 0;
        int passed = 0;
        boolean refused = false;
        for (int i = 0; i < many && !refused; i++) {
            refused = perform(acts[i]) < 0;
            if (!refused) {
                done++;
                passed += isPass(acts[i]) ? 1 : 0;
            }
        }
        if (done > 0) {
            past.add(before);
        }
        told.clear();
        told.add(refused ? 1 : 0);
        told.add(passed);
        return done;
    }

    public int undo() {
        return past.takeBack(now) ? past.size() : NONE;
    }

    /** What was refused (below 0) changed nothing, so there is nothing to undo of it. */
    private int remember(int answer) {
        if (answer >= 0) {
            past.add(before);
        }
        return answer;
    }

    private int takeOn(int barge, int singer) {
        if (!canal.hasBarge(barge) || !canal.hasSinger(singer)) {
            return NONE;
        }
        if (now.boat[singer] != NONE || now.place[singer] != now.berth[barge]) {
            return NOT_SO;
        }
        if (now.purse[barge] < canal.fee[singer]) {
            return -3;
        }
        now.boat[singer] = barge;
        now.purse[barge] -= canal.fee[singer];
        return now.purse[barge];
    }

    private int letGo(int singer) {
        if (!canal.hasSinger(singer)) {
            return NONE;
        }
        int barge = now.boat[singer];
        if (barge == NONE) {
            return NOT_SO;
        }
        now.place[singer] = now.whereIs(singer);
        now.boat[singer] = NONE;
        return barge;
    }

    private int takeRest(int n) {
        if (n < 0 || n > MOST_REST) {
            return NONE;
        }
        now.letGoBy(n);
        return now.minute;
    }

    private int readActs() {
        for (int i = 0; i < DAY_SIGNS; i++) {
            int act = readAct();
            if (act < 0) {
                return text.fault();
            }
            acts[i] = act;
            if (text.over()) {
                return i + 1;
            }
            if (text.take(';', ';') < 0) {
                return text.fault();
            }
        }
        return text.fault();
    }

    /** An act as one number: its letter by 1000, and its digits; NONE if it can't be read. */
    private int readAct() {
        int letter = text.look();
        if (letter != 'h' && letter != 'l' && letter != 'u' && letter != 'd' && letter != 'r') {
            return NONE;
        }
        text.step();
        if (letter == 'r') {
            int minutes = text.takeNumber(3);
            return minutes < 0 ? NONE : letter * 1000 + minutes;
        }
        int first = text.takeNumber(1);
        if (first < 0 || letter != 'h') {
            return first < 0 ? NONE : letter * 1000 + first;
        }
        int second = text.takeNumber(1);
        return second < 0 ? NONE : letter * 1000 + first * 10 + second;
    }

    private static boolean isPass(int act) {
        int letter = act / 1000;
        return letter == 'u' || letter == 'd';
    }

    private int perform(int act) {
        int number = act % 1000;
        switch (act / 1000) {
            case 'h':
                return takeOn(number / 10, number % 10);
            case 'l':
                return letGo(number);
            case 'u':
                return voyage.go(now, number, 1);
            case 'd':
                return voyage.go(now, number, 0);
            default:
                return takeRest(number);
        }
    }

    // ---- who sings what

    public int sings(int barge, int lock) {
        if (!canal.hasBarge(barge) || !canal.hasLock(lock)) {
            return NONE;
        }
        choir.gather(now, lock, 0);
        told.clear();
        if (!choir.settle(canal.crewOf(now, barge))) {
            return 0;
        }
        tellSong();
        return 1;
    }

    public int lacks(int barge, int lock) {
        if (!canal.hasBarge(barge) || !canal.hasLock(lock)) {
            return NONE;
        }
        choir.gather(now, lock, 0);
        int notes = choir.mostNotes(canal.crewOf(now, barge));
        told.tell(notes);
        return Integer.bitCount(notes);
    }

    public int spoils(int barge, int lock) {
        if (!canal.hasBarge(barge) || !canal.hasLock(lock)) {
            return NONE;
        }
        choir.gather(now, lock, 0);
        int missing = choir.fewestMissed(canal.crewOf(now, barge));
        told.tell(missing);
        return Integer.bitCount(missing);
    }

    public int shift(int barge, int lock) {
        if (!canal.hasBarge(barge) || !canal.hasLock(lock)) {
            return NONE;
        }
        int crew = canal.crewOf(now, barge);
        for (int far = 0; far < NOTES; far++) {
            if (singsShifted(crew, lock, -far)) {
                return 100 - far;
            }
            if (singsShifted(crew, lock, far)) {
                return 100 + far;
            }
        }
        return NOT_SO;
    }

    public int voices(int barge, int lock) {
        if (!canal.hasBarge(barge) || !canal.hasLock(lock)) {
            return NONE;
        }
        int free = canal.freeAt(now, now.berth[barge]);
        hiring.begin();
        hiring.mustSing(now, lock, canal.crewOf(now, barge), free);
        return tellHired(hiring.cheapest(free));
    }

    private boolean singsShifted(int crew, int lock, int by) {
        choir.gather(now, lock, by);
        if (!choir.settle(crew)) {
            return false;
        }
        tellSong();
        return true;
    }

    private void tellSong() {
        told.clear();
        for (int i = 0; i < VOICES; i++) {
            told.add(choir.song[i]);
        }
    }

    private int tellHired(int hired) {
        if (hired < 0) {
            return NOT_SO;
        }
        told.tell(canal.feesOf(hired));
        return hired;
    }

    // ---- journeys

    public int journey(int barge, int place) {
        if (!canal.hasBarge(barge) || !canal.hasPlace(place)) {
            return NONE;
        }
        trial.copy(now);
        int why = voyage.travel(trial, barge, place);
        told.tell(voyage.passed);
        if (why < 0) {
            told.add(voyage.lockAhead(trial, barge, voyage.way(trial, barge, place)));
            told.add(-why);
            return NOT_SO;
        }
        told.add(now.water - trial.water);
        told.add(canal.tiredOf(trial, canal.crewOf(trial, barge)));
        return trial.minute - now.minute;
    }

    public int hires(int barge, int place) {
        if (!canal.hasBarge(barge) || !canal.hasPlace(place)) {
            return NONE;
        }
        int crew = canal.crewOf(now, barge);
        int at = now.berth[barge];
        int up = voyage.way(now, barge, place);
        int met = 0;
        hiring.begin();
        for (int i = 0; i < MOST_LOCKS && at != place; i++) {
            met |= canal.freeAt(now, at);
            hiring.mustSing(now, up == 1 ? at : at - 1, crew, met);
            at += up == 1 ? 1 : -1;
        }
        return tellHired(hiring.cheapest(met));
    }

    public int rested(int barge, int place) {
        if (!canal.hasBarge(barge) || !canal.hasPlace(place)) {
            return NONE;
        }
        for (int minutes = 0; minutes <= 90; minutes += 10) {
            trial.copy(now);
            trial.letGoBy(minutes);
            int start = trial.minute;
            if (voyage.travel(trial, barge, place) >= 0) {
                told.tell(trial.minute - start);
                return minutes;
            }
        }
        return NOT_SO;
    }

    // ---- queues

    public int queue(int lock) {
        if (!canal.hasLock(lock)) {
            text.clear();
            return NONE;
        }
        int fault = waiting.read(text);
        text.clear();
        return fault < 0 ? fault - 1 : waiting.order(now.levelOf(lock), told);
    }

    public int jams() {
        int most = -1;
        int lower = 0;
        int upper = 1;
        voyage.findWays(now);
        for (int a = 0; a < NOTES; a++) {
            for (int b = a + 1; b < NOTES; b++) {
                int held = voyage.keptBy(1 << a | 1 << b);
                if (held > most) {
                    most = held;
                    lower = a;
                    upper = b;
                }
            }
        }
        told.tell(lower);
        told.add(upper);
        return most;
    }

    // ---- what was heard at night

    public int heard(int note, int is) {
        if (note < 0 || note >= NOTES || is < 0 || is > 1) {
            return NONE;
        }
        return night.note(note, is) ? night.size() : NONE;
    }

    public int forget() {
        int had = night.size();
        night.clear();
        return had;
    }

    public int who() {
        int fits = night.fitting();
        told.tell(Integer.bitCount(fits));
        return fits;
    }

    public int listen() {
        int fits = night.fitting();
        if (fits == 0) {
            return NOT_SO;
        }
        int best = 0;
        int least = MOST_SINGERS + 1;
        for (int note = 0; note < NOTES; note++) {
            int most = night.leftAtMost(fits, note);
            if (most < least) {
                least = most;
                best = note;
            }
        }
        told.tell(least);
        return best;
    }

    public int parts() {
        int notes = night.parting();
        if (notes < 0) {
            return NOT_SO;
        }
        told.tell(notes);
        return Integer.bitCount(notes);
    }

    // ---- ears, prices

    public int opens(int n, int p) {
        if (n < 1 || n > 4 || p < 0 || p > 10) {
            return NONE;
        }
        long upper = chances(n, p);
        long lower = power(10000, n);
        long common = commonDivisor(upper, lower);
        if (common > 0) {
            told.tell(upper / common);
            told.add(lower / common);
        }
        return 0;
    }

    public int tries(int p, int v) {
        if (p < 0 || p > 10 || v < 0 || v > 100) {
            return NONE;
        }
        for (int n = 1; n <= 4; n++) {
            if (chances(n, p) * 100 >= v * power(10000, n)) {
                return n;
            }
        }
        return NOT_SO;
    }

    public int rests(int c) {
        if (c < 0 || c > 9) {
            return NONE;
        }
        int many = 0;
        told.clear();
        for (int first = 0; first < 10; first++) {
            for (int second = 0; second < 10; second++) {
                if (isBest(first, second, c) && isBest(second, first, c)) {
                    many++;
                    tellFirstPair(many, first, second);
                }
            }
        }
        return many;
    }

    public int pays(int barge, int lock) {
        if (!canal.hasBarge(barge) || !canal.hasLock(lock)) {
            return NONE;
        }
        int free = canal.freeAt(now, now.berth[barge]);
        hiring.begin();
        hiring.mustSing(now, lock, canal.crewOf(now, barge), free);
        int hired = hiring.cheapest(free);
        if (hired < 0) {
            return NOT_SO;
        }
        int greatest = 0;
        told.clear();
        for (int s = 0; s < canal.singerCount; s++) {
            int without = hiring.cheapest(free & ~(1 << s));
            int dearer = without < 0 ? NEVER : canal.feesOf(without) - canal.feesOf(hired);
            told.add(dearer);
            greatest = Math.max(greatest, dearer);
        }
        return greatest;
    }

    private void tellFirstPair(int many, int first, int second) {
        if (many == 1) {
            told.tell(first);
            told.add(second);
        }
    }

    /** In how many of 10000 to the n cases one of n tries is heard right. */
    private static long chances(int n, int p) {
        long right = power(10 - p, 4);
        return power(10000, n) - power(10000 - right, n);
    }

    private static long power(long base, int n) {
        long value = 1;
        for (int i = 0; i < n; i++) {
            value *= base;
        }
        return value;
    }

    private static long commonDivisor(long a, long b) {
        for (int i = 0; i < 1000 && b != 0; i++) {
            long left = a % b;
            a = b;
            b = left;
        }
        return a;
    }

    private static boolean isBest(int own, int other, int c) {
        int gets = gain(own, other, c);
        for (int fee = 0; fee < 10; fee++) {
            if (gain(fee, other, c) > gets) {
                return false;
            }
        }
        return true;
    }

    private static int gain(int own, int other, int c) {
        if (own > other) {
            return 0;
        }
        return own < other ? own - c : (own - c) / 2;
    }

    // ---- days

    public int days(int seed, int n) {
        if (n < 1 || n > 60 || canal.bargeCount < 1) {
            return NONE;
        }
        trial.copy(now);
        int passed = 0;
        int r = seed;
        for (int i = 0; i < n; i++) {
            r = drawNext(r);
            int barge = (r >>> 16) % canal.bargeCount;
            r = drawNext(r);
            int act = (r >>> 16) % 3;
            if (act == 2) {
                trial.letGoBy(10);
            } else if (voyage.go(trial, barge, 1 - act) >= 0) {
                passed++;
            }
        }
        told.tell(trial.minute - now.minute);
        told.add(trial.water);
        return passed;
    }

    private static int drawNext(int r) {
        return r * 1103515245 + 12345;
    }

    // ---- kept

    public boolean keep(int i) {
        if (i < 0 || i >= KEPT) {
            return false;
        }
        kept[i].copy(now);
        keptBits |= 1 << i;
        return true;
    }

    public boolean again(int i) {
        if (i < 0 || i >= KEPT || (keptBits & 1 << i) == 0) {
            return false;
        }
        now.copy(kept[i]);
        past.clear();
        return true;
    }

    public int count(int what) {
        switch (what) {
            case LOCKS:
            case SINGERS:
            case BARGES:
                return canal.many(what);
            case 3:
                return now.minute;
            case 4:
                return now.water;
            case 5:
                return canal.jammed;
            case 6:
                return now.levels;
            case 7:
                return canal.crewOf(now, NONE);
            case 8:
                return canal.tiredOf(now, (1 << canal.singerCount) - 1);
            case 9:
                return night.size();
            case 10:
                return past.size();
            case 11:
                return told.size();
            case 12:
                return text.length();
            default:
                return -100;
        }
    }

    public long row(int i) throws NoSuchElementException {
        if (i < 0 || i >= told.size()) {
            throw new NoSuchElementException();
        }
        return told.at(i);
    }

    /** THE TEXT, and where its reader stands. */
    private static final class Script {
        private static final int ROOM = 80;
        private static final int END = -1;

        private final int[] signs = new int[ROOM];
        private int size;
        private int cursor;
        private int bound;

        int length() {
            return size;
        }

        boolean addFour(int v) {
            if (size + 4 > ROOM) {
                return false;
            }
            for (int i = 0; i < 4; i++) {
                signs[size + i] = v >>> 24 - 8 * i & 255;
            }
            size += 4;
            return true;
        }

        boolean cutTo(int n) {
            if (n < 0 || n > size) {
                return false;
            }
            size = n;
            return true;
        }

        void clear() {
            size = 0;
        }

        /** A sign behind the most that may be read is there (it is not over), but never fits. */
        void open(int most) {
            cursor = 0;
            bound = Math.min(size, most);
        }

        int look() {
            return cursor >= 0 && cursor < bound ? signs[cursor] : END;
        }

        void step() {
            cursor++;
        }

        boolean over() {
            return cursor >= size;
        }

        int fault() {
            return -1 - cursor;
        }

        /** The sign, if it is one of those from first to last (and it is stepped over), or END. */
        int take(int first, int last) {
            int sign = look();
            if (sign < first || sign > last) {
                return END;
            }
            step();
            return sign;
        }

        /** A number of one digit to so many, or END. */
        int takeNumber(int digits) {
            int value = END;
            for (int i = 0; i < digits; i++) {
                int digit = take('0', '9');
                if (digit < 0) {
                    return value;
                }
                value = (i == 0 ? 0 : value * 10) + digit - '0';
            }
            return value;
        }
    }

    /** The ROW. */
    private static final class Numbers {
        private final long[] numbers = new long[16];
        private int size;

        int size() {
            return size;
        }

        long at(int i) {
            return i >= 0 && i < size ? numbers[i] : 0;
        }

        void clear() {
            size = 0;
        }

        void add(long number) {
            if (size < numbers.length) {
                numbers[size] = number;
                size++;
            }
        }

        void tell(long first) {
            clear();
            add(first);
        }
    }

    /** THE RULE: an expression, held with each operator behind what it works on. */
    private static final class Rule {
        private static final int MOST_SIGNS = 40;
        private static final int DEEPEST = 4;
        private static final int SIGN = 1000;
        private static final char NEGATE = '~';
        private static final String LETTERS = "ntlwucm";

        private final int[] code = new int[MOST_SIGNS];
        private final int[] draft = new int[MOST_SIGNS];
        private final int[] stack = new int[MOST_SIGNS + 1];
        private final int[] things = new int[7];
        private int size;
        private int drafted;

        /** 0, or the fault: then the rule stays as it was. */
        int read(Script text) {
            text.open(MOST_SIGNS);
            drafted = 0;
            if (!text.over() && !(comparison(text, 0) && text.over())) {
                return text.fault();
            }
            System.arraycopy(draft, 0, code, 0, drafted);
            size = drafted;
            return 0;
        }

        void put(int which, int value) {
            if (which >= 0 && which < things.length) {
                things[which] = value;
            }
        }

        int minutes() {
            int value = size == 0
                ? things[0] * 2 + things[1] / 2 + things[2] + things[3] * 3
                : worth();
            return Math.max(1, Math.min(99, value));
        }

        private boolean comparison(Script text, int depth) {
            if (!sum(text, depth)) {
                return false;
            }
            int sign = text.take('<', '>');
            if (sign < 0) {
                return true;
            }
            return sum(text, depth) && emit(SIGN + sign);
        }

        private boolean sum(Script text, int depth) {
            boolean fine = product(text, depth);
            for (int i = 0; i < MOST_SIGNS && fine; i++) {
                int sign = text.look();
                if (sign != '+' && sign != '-') {
                    return true;
                }
                text.step();
                fine = product(text, depth) && emit(SIGN + sign);
            }
            return fine;
        }

        private boolean product(Script text, int depth) {
            boolean fine = negated(text, depth);
            for (int i = 0; i < MOST_SIGNS && fine; i++) {
                int sign = text.look();
                if (sign != '*' && sign != '/') {
                    return true;
                }
                text.step();
                fine = negated(text, depth) && emit(SIGN + sign);
            }
            return fine;
        }

        private boolean negated(Script text, int depth) {
            boolean odd = false;
            for (int i = 0; i < MOST_SIGNS && text.take('-', '-') >= 0; i++) {
                odd = !odd;
            }
            return thing(text, depth) && (!odd || emit(SIGN + NEGATE));
        }

        private boolean thing(Script text, int depth) {
            int number = text.takeNumber(3);
            if (number >= 0) {
                return emit(number);
            }
            int sign = text.look();
            if (sign == '(' && depth < DEEPEST) {
                text.step();
                return comparison(text, depth + 1) && text.take(')', ')') >= 0;
            }
            if (sign < 0 || LETTERS.indexOf((char) sign) < 0) {
                return false;
            }
            text.step();
            return emit(SIGN + sign);
        }

        /** Each sign of the text brings one part at most, so there is always room. */
        private boolean emit(int part) {
            if (drafted >= draft.length) {
                return false;
            }
            draft[drafted] = part;
            drafted++;
            return true;
        }

        private int worth() {
            int top = 0;
            for (int i = 0; i < size; i++) {
                int sign = code[i] - SIGN;
                int letter = sign < 0 ? NONE : LETTERS.indexOf((char) sign);
                if (sign < 0 || letter >= 0) {
                    stack[top] = letter >= 0 ? things[letter] : code[i];
                    top++;
                } else if (sign == NEGATE && top >= 1) {
                    stack[top - 1] = -stack[top - 1];
                } else if (top >= 2) {
                    top--;
                    stack[top - 1] = joined(sign, stack[top - 1], stack[top]);
                }
            }
            return stack[0];
        }

        private static int joined(int sign, int a, int b) {
            switch (sign) {
                case '<':
                    return a < b ? 1 : 0;
                case '>':
                    return a > b ? 1 : 0;
                case '=':
                    return a == b ? 1 : 0;
                case '+':
                    return a + b;
                case '-':
                    return a - b;
                case '*':
                    return a * b;
                default:
                    return b == 0 ? 0 : a / b;
            }
        }
    }

    /** All that goes on, and that can be kept, undone, or tried out. */
    private static final class Moment {
        private int levels;
        private int water = 20;
        private int minute;
        private final int[] place = new int[MOST_SINGERS];
        private final int[] boat = new int[MOST_SINGERS];
        private final int[] tired = new int[MOST_SINGERS];
        private final int[] berth = new int[MOST_BARGES];
        private final int[] purse = new int[MOST_BARGES];

        void copy(Moment from) {
            levels = from.levels;
            water = from.water;
            minute = from.minute;
            System.arraycopy(from.place, 0, place, 0, MOST_SINGERS);
            System.arraycopy(from.boat, 0, boat, 0, MOST_SINGERS);
            System.arraycopy(from.tired, 0, tired, 0, MOST_SINGERS);
            System.arraycopy(from.berth, 0, berth, 0, MOST_BARGES);
            System.arraycopy(from.purse, 0, purse, 0, MOST_BARGES);
        }

        int levelOf(int lock) {
            return levels >> lock & 1;
        }

        void setLevel(int lock, int level) {
            levels = levels & ~(1 << lock) | level << lock;
        }

        int whereIs(int singer) {
            int barge = boat[singer];
            return barge >= 0 && barge < MOST_BARGES ? berth[barge] : place[singer];
        }

        void letGoBy(int minutes) {
            int less = (minute + minutes) / 10 - minute / 10;
            minute += minutes;
            for (int s = 0; s < MOST_SINGERS; s++) {
                tired[s] = Math.max(0, tired[s] - less);
            }
        }
    }

    /** What there is: locks, singers, barges and the rule, and who is where at a moment. */
    private static final class Canal {
        private final Rule rule = new Rule();
        private final int[] chords = new int[MOST_LOCKS * VOICES];
        private final int[] held = new int[MOST_LOCKS];
        private final int[] low = new int[MOST_SINGERS];
        private final int[] high = new int[MOST_SINGERS];
        private final int[] fee = new int[MOST_SINGERS];
        private final int[] load = new int[MOST_BARGES];
        private int lockCount;
        private int singerCount;
        private int bargeCount;
        private int jammed;

        boolean hasLock(int lock) {
            return lock >= 0 && lock < lockCount;
        }

        boolean hasPlace(int place) {
            return place >= 0 && place <= lockCount;
        }

        boolean hasSinger(int singer) {
            return singer >= 0 && singer < singerCount;
        }

        boolean hasBarge(int barge) {
            return barge >= 0 && barge < bargeCount;
        }

        int many(int kind) {
            if (kind == LOCKS) {
                return lockCount;
            }
            return kind == SINGERS ? singerCount : bargeCount;
        }

        int room(int kind) {
            if (kind == LOCKS) {
                return MOST_LOCKS;
            }
            return kind == SINGERS ? MOST_SINGERS : MOST_BARGES;
        }

        void grow(int kind, int by) {
            if (kind == LOCKS) {
                lockCount += by;
            } else if (kind == SINGERS) {
                singerCount += by;
            } else {
                bargeCount += by;
            }
        }

        /** Writes behind those that count, so that a text that fails later leaves nothing. */
        boolean readLine(int kind, int k, Script text, Moment m) {
            if (kind == LOCKS) {
                return readLock(k, text);
            }
            return kind == SINGERS ? readSinger(k, text, m) : readBarge(k, text, m);
        }

        private boolean readLock(int lock, Script text) {
            int lowest = 'a';
            for (int i = 0; i < VOICES; i++) {
                lowest = text.take(lowest, 'z');
                if (lowest < 0) {
                    return false;
                }
                chords[lock * VOICES + i] = lowest - 'a';
            }
            int digit = text.take('1', '9');
            held[lock] = digit - '0';
            return digit >= 0;
        }

        private boolean readSinger(int singer, Script text, Moment m) {
            int lowest = text.take('a', 'z');
            if (lowest < 0) {
                return false;
            }
            int highest = text.take(lowest, 'z');
            if (highest < 0) {
                return false;
            }
            int place = readPlace(text);
            if (place < 0 || text.take(':', ':') < 0) {
                return false;
            }
            low[singer] = lowest - 'a';
            high[singer] = highest - 'a';
            fee[singer] = text.takeNumber(2);
            m.place[singer] = place;
            m.boat[singer] = NONE;
            m.tired[singer] = 0;
            return fee[singer] >= 0;
        }

        private boolean readBarge(int barge, Script text, Moment m) {
            int place = readPlace(text);
            if (place < 0) {
                return false;
            }
            load[barge] = text.takeNumber(1);
            m.berth[barge] = place;
            m.purse[barge] = 100;
            return load[barge] >= 0;
        }

        private int readPlace(Script text) {
            int digit = text.take('0', '0' + lockCount);
            return digit < 0 ? NONE : digit - '0';
        }

        /** The fees of a sheet with n entries; their sum. */
        int takeFees(int kind, int n, int f, int step) {
            int sum = 0;
            int entry = f;
            for (int s = 0; s < singerCount; s++) {
                fee[s] = s < n ? Math.max(0, Math.min(MOST_FEE, narrowed(kind, entry))) : 0;
                sum += fee[s];
                entry += step;
            }
            return sum;
        }

        private static int narrowed(int kind, int entry) {
            if (kind == 0) {
                return (byte) entry;
            }
            return kind == 1 ? (short) entry : entry;
        }

        /** The singers of a barge, or those of no crew for NONE. */
        int crewOf(Moment m, int barge) {
            int crew = 0;
            for (int s = 0; s < singerCount; s++) {
                crew |= m.boat[s] == barge ? 1 << s : 0;
            }
            return crew;
        }

        int freeAt(Moment m, int place) {
            int free = 0;
            for (int s = 0; s < singerCount; s++) {
                free |= m.boat[s] == NONE && m.place[s] == place ? 1 << s : 0;
            }
            return free;
        }

        int tiredOf(Moment m, int set) {
            int sum = 0;
            for (int s = 0; s < singerCount; s++) {
                sum += (set >> s & 1) == 1 ? m.tired[s] : 0;
            }
            return sum;
        }

        int feesOf(int set) {
            int sum = 0;
            for (int s = 0; s < singerCount; s++) {
                sum += (set >> s & 1) == 1 ? fee[s] : 0;
            }
            return sum;
        }

        /** Who can sing a note at a moment; nobody one that is jammed, or that there is not. */
        int ableToSing(Moment m, int note) {
            int able = 0;
            if (note < 0 || note >= NOTES || (jammed >> note & 1) == 1) {
                return able;
            }
            for (int s = 0; s < singerCount; s++) {
                able |= low[s] <= note && note <= high[s] - m.tired[s] ? 1 << s : 0;
            }
            return able;
        }

        int chordBits(int lock) {
            int bits = 0;
            for (int i = 0; i < VOICES; i++) {
                bits |= 1 << chords[lock * VOICES + i];
            }
            return bits;
        }
    }

    /** Who sings what of one chord. */
    private static final class Choir {
        private final Canal canal;
        private final int[] able = new int[ALL_FOUR + 1];
        private final int[] song = new int[VOICES];

        Choir(Canal canal) {
            this.canal = canal;
        }

        /** Finds, for each set of the four notes, who can sing one of them. */
        void gather(Moment m, int lock, int by) {
            for (int notes = 1; notes <= ALL_FOUR; notes++) {
                int rest = notes & notes - 1;
                able[notes] = rest == 0
                    ? canal.ableToSing(m, canal.chords[lock * VOICES + placeOf(notes)] + by)
                    : able[rest] | able[notes ^ rest];
            }
        }

        private static int placeOf(int bit) {
            return Integer.bitCount(bit - 1);
        }

        /**
         * Whether unlike ones sing these notes: by Hall's theorem they do just if for any of the
         * notes there are at least as many who can sing one of them.
         */
        boolean canSing(int notes, int crew) {
            for (int some = 1; some <= ALL_FOUR; some++) {
                boolean asked = (some & ~notes) == 0;
                if (asked && Integer.bitCount(able[some] & crew) < Integer.bitCount(some)) {
                    return false;
                }
            }
            return true;
        }

        /** Whether the crew sings the chord; the song is then the least row of who sings what. */
        boolean settle(int crew) {
            if (!canSing(ALL_FOUR, crew)) {
                return false;
            }
            int left = crew;
            int notes = ALL_FOUR;
            for (int i = 0; i < VOICES; i++) {
                notes &= ~(1 << i);
                song[i] = firstFor(i, notes, left);
                left &= ~(1 << song[i]);
            }
            return true;
        }

        /** The first who can sing note i so that the others can still sing the notes behind it. */
        private int firstFor(int i, int notes, int left) {
            int singers = able[1 << i] & left;
            for (int s = 0; s < MOST_SINGERS; s++) {
                if ((singers >> s & 1) == 1 && canSing(notes, left & ~(1 << s))) {
                    return s;
                }
            }
            return 0;
        }

        int mostNotes(int crew) {
            int best = 0;
            for (int notes = 1; notes <= ALL_FOUR; notes++) {
                if (Integer.bitCount(notes) > Integer.bitCount(best) && canSing(notes, crew)) {
                    best = notes;
                }
            }
            return best;
        }

        int fewestMissed(int crew) {
            int best = crew;
            for (int missing = 0; missing < 1 << MOST_SINGERS; missing++) {
                boolean better = Integer.bitCount(missing) < Integer.bitCount(best);
                if (better && (missing & ~crew) == 0 && !canSing(ALL_FOUR, crew & ~missing)) {
                    best = missing;
                }
            }
            return best;
        }
    }

    /** Barges that go through locks. */
    private static final class Voyage {
        private final Canal canal;
        private final Choir choir;
        private final int[] upChord = new int[MOST_BARGES];
        private final int[] downChord = new int[MOST_BARGES];
        private int passed;

        Voyage(Canal canal, Choir choir) {
            this.canal = canal;
            this.choir = choir;
        }

        /** 1 if a barge goes up to a place, else 0. */
        int way(Moment m, int barge, int place) {
            return m.berth[barge] < place ? 1 : 0;
        }

        /** The lock that is next on that way, or NONE. */
        int lockAhead(Moment m, int barge, int up) {
            int lock = up == 1 ? m.berth[barge] : m.berth[barge] - 1;
            return canal.hasLock(lock) ? lock : NONE;
        }

        /** Why it can't go (below 0), or 0; the choir then has the song. */
        private int hindrance(Moment m, int barge, int up) {
            if (!canal.hasBarge(barge) || up < 0 || up > 1) {
                return NONE;
            }
            int lock = lockAhead(m, barge, up);
            if (lock < 0) {
                return NOT_SO;
            }
            choir.gather(m, lock, 0);
            if (!choir.settle(canal.crewOf(m, barge))) {
                return NO_SONG;
            }
            return m.water < waterFor(m, lock, up) ? NO_WATER : 0;
        }

        private static int waterFor(Moment m, int lock, int up) {
            return up == 1 ? m.levelOf(lock) : 1;
        }

        /** The minutes of going through a lock, which is done, or why it can't be. */
        int go(Moment m, int barge, int up) {
            int why = hindrance(m, barge, up);
            if (why < 0) {
                return why;
            }
            int lock = lockAhead(m, barge, up);
            int minutes = minutesFor(m, barge, lock, up);
            m.water -= waterFor(m, lock, up);
            m.setLevel(lock, up);
            m.minute += minutes;
            m.berth[barge] += up == 1 ? 1 : -1;
            for (int i = 0; i < VOICES; i++) {
                int s = choir.song[i];
                m.tired[s] = Math.min(MOST_TIRED, m.tired[s] + 1);
            }
            return minutes;
        }

        private int minutesFor(Moment m, int barge, int lock, int up) {
            int crew = canal.crewOf(m, barge);
            Rule rule = canal.rule;
            rule.put(0, canal.held[lock]);
            rule.put(1, canal.tiredOf(m, crew));
            rule.put(2, canal.load[barge]);
            rule.put(3, m.levelOf(lock) == up ? 1 : 0);
            rule.put(4, up);
            rule.put(5, Integer.bitCount(crew));
            rule.put(6, m.minute % 60);
            return rule.minutes();
        }

        /** 0, when the barge has come to a place, or why it can't go on; passed tells how far. */
        int travel(Moment m, int barge, int place) {
            passed = 0;
            int up = way(m, barge, place);
            for (int i = 0; i < MOST_LOCKS && m.berth[barge] != place; i++) {
                int minutes = go(m, barge, up);
                if (minutes < 0) {
                    return minutes;
                }
                passed++;
            }
            return 0;
        }

        /** Finds for each barge the chords of the locks through which it could go (0: none). */
        void findWays(Moment m) {
            for (int b = 0; b < canal.bargeCount; b++) {
                upChord[b] = chordAhead(m, b, 1);
                downChord[b] = chordAhead(m, b, 0);
            }
        }

        private int chordAhead(Moment m, int barge, int up) {
            int lock = lockAhead(m, barge, up);
            return lock >= 0 && hindrance(m, barge, up) == 0 ? canal.chordBits(lock) : 0;
        }

        /** How many barges that could go can no more, if these notes are jammed besides. */
        int keptBy(int notes) {
            int many = 0;
            for (int b = 0; b < canal.bargeCount; b++) {
                boolean could = (upChord[b] | downChord[b]) != 0;
                boolean up = upChord[b] != 0 && (upChord[b] & notes) == 0;
                boolean down = downChord[b] != 0 && (downChord[b] & notes) == 0;
                many += could && !up && !down ? 1 : 0;
            }
            return many;
        }
    }

    /** The latest moments that can be gone back to, as a ring. */
    private static final class Past {
        private static final int ROOM = 15;

        private final Moment[] moments = new Moment[ROOM];
        private int first;
        private int size;

        Past() {
            for (int i = 0; i < ROOM; i++) {
                moments[i] = new Moment();
            }
        }

        int size() {
            return size;
        }

        void clear() {
            size = 0;
        }

        void add(Moment m) {
            moments[(first + size) % ROOM].copy(m);
            if (size < ROOM) {
                size++;
            } else {
                first = (first + 1) % ROOM;
            }
        }

        boolean takeBack(Moment into) {
            if (size == 0) {
                return false;
            }
            size--;
            into.copy(moments[(first + size) % ROOM]);
            return true;
        }
    }

    /** Which singers must be hired, so that each of some chords is sung. */
    private static final class Hiring {
        private static final int SETS = 1 << MOST_SINGERS;

        private final Canal canal;
        private final Choir choir;
        private final boolean[] works = new boolean[SETS];

        Hiring(Canal canal, Choir choir) {
            this.canal = canal;
            this.choir = choir;
        }

        void begin() {
            for (int set = 0; set < SETS; set++) {
                works[set] = true;
            }
        }

        /** Of a set that is hired, those who have been met by then sing with the crew. */
        void mustSing(Moment m, int lock, int crew, int met) {
            choir.gather(m, lock, 0);
            for (int set = 0; set < SETS; set++) {
                works[set] = works[set] && choir.canSing(ALL_FOUR, crew | set & met);
            }
        }

        /** The best set out of those who are free, or NONE; the least bits come first. */
        int cheapest(int free) {
            int best = NONE;
            for (int set = 0; set < SETS; set++) {
                if (works[set] && (set & ~free) == 0 && (best < 0 || isBetter(set, best))) {
                    best = set;
                }
            }
            return best;
        }

        private boolean isBetter(int set, int best) {
            int fees = canal.feesOf(set);
            int bestFees = canal.feesOf(best);
            return fees < bestFees
                || fees == bestFees && Integer.bitCount(set) < Integer.bitCount(best);
        }
    }

    /** What was heard at night. */
    private static final class Night {
        private static final int ROOM = 12;
        private static final int MOST_PARTING = 4;

        private final Canal canal;
        private final int[] apart = new int[NOTES];
        private int sung;
        private int unsung;
        private int size;
        private int pairs;

        Night(Canal canal) {
            this.canal = canal;
        }

        int size() {
            return size;
        }

        void clear() {
            size = 0;
            sung = 0;
            unsung = 0;
        }

        boolean note(int note, int is) {
            if (size >= ROOM) {
                return false;
            }
            size++;
            if (is == 1) {
                sung |= 1 << note;
            } else {
                unsung |= 1 << note;
            }
            return true;
        }

        private boolean hasInRange(int singer, int note) {
            return canal.low[singer] <= note && note <= canal.high[singer];
        }

        int fitting() {
            int fits = 0;
            for (int s = 0; s < canal.singerCount; s++) {
                int range = (1 << canal.high[s] + 1) - (1 << canal.low[s]);
                boolean fit = (sung & ~range) == 0 && (unsung & range) == 0;
                fits |= fit ? 1 << s : 0;
            }
            return fits;
        }

        int leftAtMost(int fits, int note) {
            int with = 0;
            int without = 0;
            for (int s = 0; s < canal.singerCount; s++) {
                int one = fits >> s & 1;
                if (hasInRange(s, note)) {
                    with += one;
                } else {
                    without += one;
                }
            }
            return Math.max(with, without);
        }

        /** The fewest notes that part all who fit, of as few the least bits; NONE: not by four. */
        int parting() {
            findPairs(fitting());
            if (!allApart()) {
                return NONE;
            }
            for (int many = 0; many <= MOST_PARTING; many++) {
                int notes = partingBy(many, NOTES, 0);
                if (notes >= 0) {
                    return notes;
                }
            }
            return NONE;
        }

        /** Numbers the pairs of those who fit, as bits, and finds which of them each note parts. */
        private void findPairs(int fits) {
            pairs = 0;
            for (int note = 0; note < NOTES; note++) {
                apart[note] = 0;
            }
            int pair = 1;
            for (int a = 0; a < canal.singerCount; a++) {
                for (int b = a + 1; b < canal.singerCount; b++) {
                    if ((fits >> a & fits >> b & 1) == 1) {
                        pairs |= pair;
                        markPair(a, b, pair);
                        pair <<= 1;
                    }
                }
            }
        }

        /** Two of the same range are parted by no notes at all, so that no search is needed. */
        private boolean allApart() {
            int parted = 0;
            for (int note = 0; note < NOTES; note++) {
                parted |= apart[note];
            }
            return parted == pairs;
        }

        private void markPair(int a, int b, int pair) {
            for (int note = 0; note < NOTES; note++) {
                if (hasInRange(a, note) != hasInRange(b, note)) {
                    apart[note] |= pair;
                }
            }
        }

        /**
         * So many notes below another that part all pairs with those parted already, or NONE. The
         * highest is chosen first, and low ones ahead of high ones, so that the first set found
         * has the least bits.
         */
        private int partingBy(int many, int below, int parted) {
            if (many == 0) {
                return parted == pairs ? 0 : NONE;
            }
            for (int note = many - 1; note < below; note++) {
                int others = partingBy(many - 1, note, parted | apart[note]);
                if (others >= 0) {
                    return others | 1 << note;
                }
            }
            return NONE;
        }
    }

    /** Barges that wait at a lock on both sides. */
    private static final class Waiting {
        private static final int ROOM = 14;
        private static final int WATER = 100;

        private final int[] ups = new int[ROOM];
        private final int[] downs = new int[ROOM];
        private final int[] costs = new int[(ROOM + 1) * (ROOM + 1) * 2];
        private int upCount;
        private int downCount;

        /** 0, or the fault of the text. */
        int read(Script text) {
            text.open(ROOM);
            upCount = 0;
            downCount = 0;
            for (int i = 0; i < ROOM; i++) {
                if (text.take('u', 'u') >= 0) {
                    ups[upCount] = i;
                    upCount++;
                } else if (text.take('d', 'd') >= 0) {
                    downs[downCount] = i;
                    downCount++;
                } else {
                    return i > 0 && text.over() ? 0 : text.fault();
                }
            }
            return text.over() ? 0 : text.fault();
        }

        /** The water of the best order, which is told. */
        int order(int level, Numbers told) {
            findCosts();
            int all = costAfter(0, 0, level);
            told.tell(all % WATER);
            int u = 0;
            int d = 0;
            int high = level;
            for (int i = 0; i < upCount + downCount; i++) {
                if (goesUpNext(u, d, high)) {
                    told.add(ups[u]);
                    u++;
                    high = 1;
                } else {
                    told.add(downs[d]);
                    d++;
                    high = 0;
                }
            }
            return all / WATER;
        }

        /** Of as good ones the one that stands first in the text goes next. */
        private boolean goesUpNext(int u, int d, int level) {
            if (u >= upCount || d >= downCount) {
                return u < upCount;
            }
            int byUp = upCost(u, d, level);
            int byDown = downCost(u, d, level);
            return byUp < byDown || byUp == byDown && ups[u] < downs[d];
        }

        private void findCosts() {
            for (int u = upCount; u >= 0; u--) {
                for (int d = downCount; d >= 0; d--) {
                    for (int level = 0; level < 2; level++) {
                        costs[slot(u, d, level)] = costNext(u, d, level);
                    }
                }
            }
        }

        private int costNext(int u, int d, int level) {
            if (u >= upCount) {
                return d >= downCount ? 0 : downCost(u, d, level);
            }
            int byUp = upCost(u, d, level);
            return d >= downCount ? byUp : Math.min(byUp, downCost(u, d, level));
        }

        /** Going up from a high lock empties it first, which costs water. */
        private int upCost(int u, int d, int level) {
            return level * (WATER + 1) + costAfter(u + 1, d, 1);
        }

        /** Going down costs water; from a low lock it is filled first. */
        private int downCost(int u, int d, int level) {
            return WATER + 1 - level + costAfter(u, d + 1, 0);
        }

        private int costAfter(int u, int d, int level) {
            return costs[slot(u, d, level)];
        }

        private static int slot(int u, int d, int level) {
            return (u * (ROOM + 1) + d) * 2 + level;
        }
    }
}
