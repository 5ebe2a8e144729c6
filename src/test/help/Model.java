import java.math.BigInteger;
import java.util.ArrayList;
import java.util.Arrays;
import java.util.Collections;
import java.util.List;

/** The document once more, by trying out all there is. */
final class Model {
    static final long THROWN = Long.MIN_VALUE;

    private static final class Lock {
        int[] notes = new int[4];
        int held;
        int level;

        Lock copy() {
            Lock c = new Lock();
            c.notes = notes.clone();
            c.held = held;
            c.level = level;
            return c;
        }
    }

    private static final class Singer {
        int low;
        int high;
        int fee;
        int tired;
        int place;
        int boat = -1;

        Singer copy() {
            Singer c = new Singer();
            c.low = low;
            c.high = high;
            c.fee = fee;
            c.tired = tired;
            c.place = place;
            c.boat = boat;
            return c;
        }
    }

    private static final class Barge {
        int place;
        int load;
        int purse = 100;

        Barge copy() {
            Barge c = new Barge();
            c.place = place;
            c.load = load;
            c.purse = purse;
            return c;
        }
    }

    private static final class World {
        List<Lock> locks = new ArrayList<>();
        List<Singer> singers = new ArrayList<>();
        List<Barge> barges = new ArrayList<>();
        int water = 20;
        int now;

        World copy() {
            World c = new World();
            locks.forEach(k -> c.locks.add(k.copy()));
            singers.forEach(k -> c.singers.add(k.copy()));
            barges.forEach(k -> c.barges.add(k.copy()));
            c.water = water;
            c.now = now;
            return c;
        }
    }

    World w = new World();
    String text = "";
    String rule = "";
    int jammed;
    List<Long> row = new ArrayList<>();
    List<World> past = new ArrayList<>();
    World[] kept = new World[3];
    List<int[]> heard = new ArrayList<>();

    /** What a call would answer; nothing comes of it. */
    long wouldAnswer(String call, int... a) {
        Model c = new Model();
        c.w = w.copy();
        c.text = text;
        c.rule = rule;
        c.jammed = jammed;
        c.row = row;
        c.past.addAll(past);
        c.kept = kept.clone();
        c.heard.addAll(heard);
        return c.ask(call, a);
    }

    long ask(String call, int... a) {
        switch (call) {
            case "sign": return sign(a[0]);
            case "end": return end(a[0]);
            case "locks": return locks();
            case "singers": return singers();
            case "barges": return barges();
            case "rule": return rule();
            case "lock": return lock(a[0], a[1]);
            case "singer": return singer(a[0], a[1]);
            case "barge": return barge(a[0], a[1]);
            case "set": return set(a[0], a[1]);
            case "sheet": return sheet(a[0], a[1], a[2], a[3]);
            case "hire": return hire(a[0], a[1]);
            case "leave": return done(w.copy(), leave(a[0]));
            case "pass": return pass(a[0], a[1]);
            case "rest": return done(w.copy(), rest(w, a[0]));
            case "day": return day();
            case "undo": return undo();
            case "sings": return sings(a[0], a[1]);
            case "lacks": return lacks(a[0], a[1]);
            case "spoils": return spoils(a[0], a[1]);
            case "shift": return shift(a[0], a[1]);
            case "voices": return voices(a[0], a[1]);
            case "journey": return journey(a[0], a[1]);
            case "hires": return hires(a[0], a[1]);
            case "rested": return rested(a[0], a[1]);
            case "queue": return queue(a[0]);
            case "jams": return jams();
            case "heard": return hear(a[0], a[1]);
            case "forget": return forget();
            case "who": return who();
            case "listen": return listen();
            case "parts": return parts();
            case "opens": return opens(a[0], a[1]);
            case "tries": return tries(a[0], a[1]);
            case "rests": return rests(a[0]);
            case "pays": return pays(a[0], a[1]);
            case "days": return days(a[0], a[1]);
            case "keep": return keep(a[0]);
            case "again": return again(a[0]);
            case "count": return count(a[0]);
            case "row": return a[0] < 0 || a[0] >= row.size() ? THROWN : row.get(a[0]);
            default: throw new IllegalArgumentException(call);
        }
    }

    void tell(long... numbers) {
        row = new ArrayList<>();
        for (long n : numbers) {
            row.add(n);
        }
    }

    long count(int what) {
        int levels = 0;
        int free = 0;
        int tired = 0;
        for (int i = 0; i < w.locks.size(); i++) {
            levels += w.locks.get(i).level << i;
        }
        for (int i = 0; i < w.singers.size(); i++) {
            free += w.singers.get(i).boat < 0 ? 1 << i : 0;
            tired += w.singers.get(i).tired;
        }
        int[] all = {w.locks.size(), w.singers.size(), w.barges.size(), w.now, w.water, jammed, levels, free, tired,
            heard.size(), past.size(), row.size(), text.length()};
        return what < 0 || what >= all.length ? -100 : all[what];
    }

    long[] state() {
        List<Long> all = new ArrayList<>();
        for (int what = -1; what <= 13; what++) {
            all.add(count(what));
        }
        for (int k = 0; k < w.locks.size(); k++) {
            for (int what = 0; what < 6; what++) {
                all.add(lock(k, what));
            }
        }
        for (int k = 0; k < w.singers.size(); k++) {
            for (int what = 0; what < 6; what++) {
                all.add(singer(k, what));
            }
        }
        for (int k = 0; k < w.barges.size(); k++) {
            for (int what = 0; what < 4; what++) {
                all.add(barge(k, what));
            }
        }
        return all.stream().mapToLong(v -> v).toArray();
    }

    long sign(int v) {
        if (text.length() > 76) {
            return -1;
        }
        text += "" + (char) (v >> 24 & 255) + (char) (v >> 16 & 255) + (char) (v >> 8 & 255) + (char) (v & 255);
        return text.length();
    }

    long end(int n) {
        if (n < 0 || n > text.length()) {
            return 0;
        }
        text = text.substring(0, n);
        return 1;
    }

    String read() {
        String t = text;
        text = "";
        return t;
    }

    void came() {
        past.clear();
        Arrays.fill(kept, null);
    }

    /** The first sign that can't stand, by a form in which each sign of a line is named. */
    long lines(String t, int most, int room, String form, int shortest) {
        int lines = 0;
        int in = 0;
        for (int p = 0; p <= t.length(); p++) {
            boolean over = p == t.length();
            char c = over ? 0 : t.charAt(p);
            if (over) {
                return in >= shortest ? lines : -1 - p;
            }
            if (p >= most) {
                return -1 - most;
            }
            if (in >= shortest && c == ';') {
                in = 0;
                continue;
            }
            if (in == 0) {
                if (lines == room) {
                    return -1 - p;
                }
                lines++;
            }
            char before = p > 0 ? t.charAt(p - 1) : 0;
            if (in >= form.length() || !stands(form.charAt(in), c, before)) {
                return -1 - p;
            }
            in++;
        }
        throw new AssertionError();
    }

    boolean stands(char kind, char c, char before) {
        switch (kind) {
            case 'a': return c >= 'a' && c <= 'z';
            case 'b': return c >= before && c <= 'z';
            case '1': return c >= '1' && c <= '9';
            case 'p': return c >= '0' && c <= '9' && c - '0' <= w.locks.size();
            case '0': return c >= '0' && c <= '9';
            default: return c == kind;
        }
    }

    long locks() {
        String t = read();
        long many = t.isEmpty() ? 0 : lines(t, 47, 8 - w.locks.size(), "abbb1", 5);
        if (many > 0) {
            came();
            for (String line : t.split(";")) {
                Lock k = new Lock();
                for (int i = 0; i < 4; i++) {
                    k.notes[i] = line.charAt(i) - 'a';
                }
                k.held = line.charAt(4) - '0';
                w.locks.add(k);
            }
        }
        return many;
    }

    long singers() {
        String t = read();
        long many = t.isEmpty() ? 0 : lines(t, 63, 8 - w.singers.size(), "abp:00", 5);
        if (many > 0) {
            came();
            for (String line : t.split(";")) {
                Singer s = new Singer();
                s.low = line.charAt(0) - 'a';
                s.high = line.charAt(1) - 'a';
                s.place = line.charAt(2) - '0';
                s.fee = Integer.parseInt(line.substring(4));
                w.singers.add(s);
            }
        }
        return many;
    }

    long barges() {
        String t = read();
        long many = t.isEmpty() ? 0 : lines(t, 11, 4 - w.barges.size(), "p0", 2);
        if (many > 0) {
            came();
            for (String line : t.split(";")) {
                Barge b = new Barge();
                b.place = line.charAt(0) - '0';
                b.load = line.charAt(1) - '0';
                w.barges.add(b);
            }
        }
        return many;
    }

    /** A walk over the signs with a pile of brackets, each knowing whether it has compared. */
    long rule() {
        String t = read();
        List<Boolean> compared = new ArrayList<>(List.of(false));
        int digits = 0;
        boolean behind = false;
        for (int p = 0; p < t.length(); p++) {
            char c = t.charAt(p);
            int deep = compared.size() - 1;
            boolean fine;
            if (p >= 40) {
                return -41;
            }
            if (behind) {
                if (Character.isDigit(c) && c < 128) {
                    fine = digits > 0 && digits < 3;
                    digits++;
                } else if (c == ')') {
                    fine = deep > 0;
                    if (fine) {
                        compared.remove(deep);
                    }
                    digits = 0;
                } else if ("<>=".indexOf(c) >= 0) {
                    fine = !compared.get(deep);
                    compared.set(deep, true);
                    behind = false;
                } else {
                    fine = "+-*/".indexOf(c) >= 0;
                    behind = false;
                }
            } else if (c >= '0' && c <= '9') {
                fine = true;
                behind = true;
                digits = 1;
            } else if ("ntlwucm".indexOf(c) >= 0) {
                fine = true;
                behind = true;
                digits = 0;
            } else if (c == '(') {
                fine = deep < 4;
                compared.add(false);
            } else {
                fine = c == '-';
            }
            if (!fine) {
                return -1 - p;
            }
        }
        if (!t.isEmpty() && (!behind || compared.size() > 1)) {
            return -1 - t.length();
        }
        rule = t;
        return 0;
    }

    /** Splits at the operator that binds least, the last of its kind. */
    int value(String e, int[] things) {
        for (String kind : new String[] {"<>=", "+-", "*/"}) {
            int deep = 0;
            for (int p = e.length() - 1; p > 0; p--) {
                char c = e.charAt(p);
                deep += c == ')' ? 1 : c == '(' ? -1 : 0;
                boolean two = "0123456789ntlwucm)".indexOf(e.charAt(p - 1)) >= 0;
                if (deep == 0 && two && kind.indexOf(c) >= 0) {
                    return join(value(e.substring(0, p), things), c, value(e.substring(p + 1), things));
                }
            }
        }
        if (e.charAt(0) == '-') {
            return -value(e.substring(1), things);
        }
        if (e.charAt(0) == '(') {
            return value(e.substring(1, e.length() - 1), things);
        }
        int thing = "ntlwucm".indexOf(e.charAt(0));
        return thing >= 0 ? things[thing] : Integer.parseInt(e);
    }

    int join(int a, char c, int b) {
        switch (c) {
            case '<': return a < b ? 1 : 0;
            case '>': return a > b ? 1 : 0;
            case '=': return a == b ? 1 : 0;
            case '+': return a + b;
            case '-': return a - b;
            case '*': return a * b;
            default: return b == 0 ? 0 : a / b;
        }
    }

    long lock(int k, int what) {
        if (!hasLock(k) || what < 0 || what > 5) {
            return THROWN;
        }
        Lock lock = w.locks.get(k);
        return what < 4 ? lock.notes[what] : what == 4 ? lock.held : lock.level;
    }

    long singer(int k, int what) {
        if (!hasSinger(k) || what < 0 || what > 5) {
            return THROWN;
        }
        Singer s = w.singers.get(k);
        int place = s.boat < 0 ? s.place : w.barges.get(s.boat).place;
        return new int[] {s.low, s.high, s.fee, s.tired, place, s.boat}[what];
    }

    long barge(int k, int what) {
        if (!hasBarge(k) || what < 0 || what > 3) {
            return THROWN;
        }
        Barge b = w.barges.get(k);
        return new int[] {b.place, b.load, b.purse, bits(crew(w, k))}[what];
    }

    boolean hasLock(int k) {
        return k >= 0 && k < w.locks.size();
    }

    boolean hasSinger(int k) {
        return k >= 0 && k < w.singers.size();
    }

    boolean hasBarge(int k) {
        return k >= 0 && k < w.barges.size();
    }

    boolean hasPlace(int k) {
        return k >= 0 && k <= w.locks.size();
    }

    List<Integer> crew(World v, int barge) {
        List<Integer> crew = new ArrayList<>();
        for (int s = 0; s < v.singers.size(); s++) {
            if (v.singers.get(s).boat == barge) {
                crew.add(s);
            }
        }
        return crew;
    }

    int bits(List<Integer> set) {
        return set.stream().mapToInt(s -> 1 << s).sum();
    }

    List<Integer> list(int bits) {
        List<Integer> set = new ArrayList<>();
        for (int i = 0; i < 31; i++) {
            if ((bits >> i & 1) == 1) {
                set.add(i);
            }
        }
        return set;
    }

    long set(int what, int v) {
        if (what == 0 && v >= 0 && v <= 999) {
            int was = w.water;
            w.water = v;
            return was;
        }
        if (what == 1 && v >= 0 && v >> 26 == 0) {
            int was = jammed;
            jammed = v;
            return was;
        }
        return -1;
    }

    long sheet(int kind, int n, int f, int step) {
        if (kind < 0 || kind > 3 || n > 8) {
            return -1;
        }
        if (kind < 3 && n < 0) {
            return -2;
        }
        long sum = 0;
        for (int i = 0; i < w.singers.size(); i++) {
            int v = f + i * step;
            v = kind == 0 ? (byte) v : kind == 1 ? (short) v : v;
            v = kind == 3 || i >= n ? 0 : v < 0 ? 0 : v > 99 ? 99 : v;
            w.singers.get(i).fee = v;
            sum += v;
        }
        return kind == 3 ? -3 : sum;
    }

    long done(World before, long answer) {
        if (answer >= 0) {
            past.add(before);
            if (past.size() > 15) {
                past.remove(0);
            }
        }
        return answer;
    }

    long hire(int barge, int singer) {
        return done(w.copy(), takeOn(barge, singer));
    }

    long takeOn(int barge, int singer) {
        if (!hasBarge(barge) || !hasSinger(singer)) {
            return -1;
        }
        Barge b = w.barges.get(barge);
        Singer s = w.singers.get(singer);
        if (s.boat >= 0 || s.place != b.place) {
            return -2;
        }
        if (b.purse < s.fee) {
            return -3;
        }
        s.boat = barge;
        return b.purse -= s.fee;
    }

    long leave(int singer) {
        if (!hasSinger(singer)) {
            return -1;
        }
        Singer s = w.singers.get(singer);
        if (s.boat < 0) {
            return -2;
        }
        int boat = s.boat;
        s.place = w.barges.get(boat).place;
        s.boat = -1;
        return boat;
    }

    boolean can(World v, int s, int note, int jams) {
        Singer one = v.singers.get(s);
        return note >= 0 && note < 26 && (jams >> note & 1) == 0 && one.low <= note && note <= one.high - one.tired;
    }

    /** All fours of unlike ones, in the order of rows: the first that does, or null. */
    int[] song(World v, List<Integer> crew, int[] notes, int jams) {
        for (int a : crew) {
            for (int b : crew) {
                for (int c : crew) {
                    for (int d : crew) {
                        boolean unlike = a != b && a != c && a != d && b != c && b != d && c != d;
                        if (unlike && can(v, a, notes[0], jams) && can(v, b, notes[1], jams)
                            && can(v, c, notes[2], jams) && can(v, d, notes[3], jams)) {
                            return new int[] {a, b, c, d};
                        }
                    }
                }
            }
        }
        return null;
    }

    int hindered(World v, int barge, int up, int jams) {
        int k = up == 1 ? v.barges.get(barge).place : v.barges.get(barge).place - 1;
        if (k < 0 || k >= v.locks.size()) {
            return -2;
        }
        Lock lock = v.locks.get(k);
        if (song(v, crew(v, barge), lock.notes, jams) == null) {
            return -3;
        }
        int water = (up == 1 && lock.level == 1 ? 1 : 0) + (up == 0 ? 1 : 0);
        return v.water < water ? -4 : 0;
    }

    int go(World v, int barge, int up, List<Integer> singing) {
        int why = hindered(v, barge, up, jammed);
        if (why < 0) {
            return why;
        }
        Barge b = v.barges.get(barge);
        int k = up == 1 ? b.place : b.place - 1;
        Lock lock = v.locks.get(k);
        int[] song = song(v, crew(v, barge), lock.notes, jammed);
        int tired = 0;
        for (int s : crew(v, barge)) {
            tired += v.singers.get(s).tired;
        }
        int first = up == 1 ? lock.level : 1 - lock.level;
        int[] things = {lock.held, tired, b.load, first, up, crew(v, barge).size(), v.now % 60};
        int minutes = value(rule.isEmpty() ? "n*2+t/2+l+w*3" : rule, things);
        minutes = minutes < 1 ? 1 : minutes > 99 ? 99 : minutes;
        if (up == 1 && lock.level == 1) {
            lock.level = 0;
            v.water--;
        }
        if (up == 0) {
            v.water--;
        }
        lock.level = up;
        b.place += up == 1 ? 1 : -1;
        v.now += minutes;
        for (int s : song) {
            Singer one = v.singers.get(s);
            one.tired = one.tired == 9 ? 9 : one.tired + 1;
            singing.add(s);
        }
        return minutes;
    }

    long pass(int barge, int up) {
        World before = w.copy();
        List<Integer> singing = new ArrayList<>();
        long minutes = passing(barge, up, singing);
        if (minutes >= 0) {
            tell(singing.get(0), singing.get(1), singing.get(2), singing.get(3));
        }
        return done(before, minutes);
    }

    long passing(int barge, int up, List<Integer> singing) {
        return !hasBarge(barge) || up < 0 || up > 1 ? -1 : go(w, barge, up, singing);
    }

    long rest(World v, int n) {
        if (n < 0 || n > 600) {
            return -1;
        }
        for (int i = 0; i < n; i++) {
            v.now++;
            if (v.now % 10 == 0) {
                v.singers.forEach(s -> s.tired = Math.max(0, s.tired - 1));
            }
        }
        return v.now;
    }

    long day() {
        String t = read();
        int fault = dayFault(t);
        if (fault >= 0) {
            return -1 - fault;
        }
        World before = w.copy();
        int did = 0;
        int passed = 0;
        boolean refused = false;
        for (String act : t.isEmpty() ? new String[0] : t.split(";")) {
            int d = Integer.parseInt(act.substring(1, 2));
            char c = act.charAt(0);
            long answer = c == 'h' ? takeOn(d, act.charAt(2) - '0')
                : c == 'l' ? leave(d)
                : c == 'r' ? rest(w, Integer.parseInt(act.substring(1)))
                : passing(d, c == 'u' ? 1 : 0, new ArrayList<>());
            if (answer < 0) {
                refused = true;
                break;
            }
            did++;
            passed += c == 'u' || c == 'd' ? 1 : 0;
        }
        done(before, did > 0 ? 0 : -1);
        tell(refused ? 1 : 0, passed);
        return did;
    }

    int dayFault(String t) {
        String act = "";
        for (int p = 0; p < t.length(); p++) {
            char c = t.charAt(p);
            boolean digit = c >= '0' && c <= '9';
            boolean whole = act.matches("h\\d\\d|[lud]\\d|r\\d{1,3}");
            boolean more = act.isEmpty() ? "hludr".indexOf(c) >= 0 : digit && !act.matches("h\\d\\d|[lud]\\d|r\\d{3}");
            if (p >= 60 || !(more || whole && c == ';')) {
                return p;
            }
            act = more ? act + c : "";
        }
        return t.isEmpty() || act.matches("h\\d\\d|[lud]\\d|r\\d{1,3}") ? -1 : t.length();
    }

    long undo() {
        if (past.isEmpty()) {
            return -1;
        }
        back(past.remove(past.size() - 1));
        return past.size();
    }

    /** The fees do not go back: they are none of what is kept. */
    void back(World v) {
        World c = v.copy();
        for (int i = 0; i < c.singers.size(); i++) {
            c.singers.get(i).fee = w.singers.get(i).fee;
        }
        w = c;
    }

    long sings(int barge, int lock) {
        if (!hasBarge(barge) || !hasLock(lock)) {
            return -1;
        }
        int[] song = song(w, crew(w, barge), w.locks.get(lock).notes, jammed);
        tell(song == null ? new long[0] : Arrays.stream(song).asLongStream().toArray());
        return song == null ? 0 : 1;
    }

    boolean notesSung(List<Integer> crew, int[] notes, int set, int i) {
        if (i == 4) {
            return true;
        }
        if ((set >> i & 1) == 0) {
            return notesSung(crew, notes, set, i + 1);
        }
        for (int s : crew) {
            List<Integer> others = new ArrayList<>(crew);
            others.remove(Integer.valueOf(s));
            if (can(w, s, notes[i], jammed) && notesSung(others, notes, set, i + 1)) {
                return true;
            }
        }
        return false;
    }

    long lacks(int barge, int lock) {
        if (!hasBarge(barge) || !hasLock(lock)) {
            return -1;
        }
        int best = 0;
        for (int set = 15; set >= 0; set--) {
            if (Integer.bitCount(set) >= Integer.bitCount(best)
                && notesSung(crew(w, barge), w.locks.get(lock).notes, set, 0)) {
                best = set;
            }
        }
        tell(best);
        return Integer.bitCount(best);
    }

    long spoils(int barge, int lock) {
        if (!hasBarge(barge) || !hasLock(lock)) {
            return -1;
        }
        int crew = bits(crew(w, barge));
        for (int many = 0; many <= 8; many++) {
            for (int set = 0; set < 256; set++) {
                if ((set & crew) == set && Integer.bitCount(set) == many
                    && song(w, list(crew ^ set), w.locks.get(lock).notes, jammed) == null) {
                    tell(set);
                    return many;
                }
            }
        }
        throw new AssertionError();
    }

    long shift(int barge, int lock) {
        if (!hasBarge(barge) || !hasLock(lock)) {
            return -1;
        }
        int best = 99;
        int[] song = null;
        for (int by = -25; by <= 25; by++) {
            int[] notes = w.locks.get(lock).notes.clone();
            for (int i = 0; i < 4; i++) {
                notes[i] += by;
            }
            int[] found = song(w, crew(w, barge), notes, jammed);
            if (found != null && Math.abs(by) < Math.abs(best)) {
                best = by;
                song = found;
            }
        }
        if (song == null) {
            return -2;
        }
        tell(song[0], song[1], song[2], song[3]);
        return best + 100;
    }

    /** Each set as fees, how many, bits: the least row is the best; null for none. */
    int[] cheapest(int free, java.util.function.IntPredicate does) {
        int[] best = null;
        for (int set = 0; set < 256; set++) {
            if ((set & free) != set || !does.test(set)) {
                continue;
            }
            int fees = list(set).stream().mapToInt(s -> w.singers.get(s).fee).sum();
            int[] row = {fees, Integer.bitCount(set), set};
            if (best == null || Arrays.compare(row, best) < 0) {
                best = row;
            }
        }
        return best;
    }

    int freeAt(int place) {
        int free = 0;
        for (int s = 0; s < w.singers.size(); s++) {
            Singer one = w.singers.get(s);
            free |= one.boat < 0 && one.place == place ? 1 << s : 0;
        }
        return free;
    }

    int[] voicesOf(int barge, int lock, int without) {
        int crew = bits(crew(w, barge));
        return cheapest(freeAt(w.barges.get(barge).place) & ~without,
            set -> song(w, list(crew | set), w.locks.get(lock).notes, jammed) != null);
    }

    long voices(int barge, int lock) {
        if (!hasBarge(barge) || !hasLock(lock)) {
            return -1;
        }
        int[] best = voicesOf(barge, lock, 0);
        if (best == null) {
            return -2;
        }
        tell(best[0]);
        return best[2];
    }

    long pays(int barge, int lock) {
        if (!hasBarge(barge) || !hasLock(lock)) {
            return -1;
        }
        int[] best = voicesOf(barge, lock, 0);
        if (best == null) {
            return -2;
        }
        List<Long> all = new ArrayList<>();
        for (int s = 0; s < w.singers.size(); s++) {
            int[] less = voicesOf(barge, lock, 1 << s);
            all.add(less == null ? 9999L : less[0] - best[0]);
        }
        row = all;
        return Collections.max(all);
    }

    long[] travel(World v, int barge, int place) {
        long minutes = 0;
        long passed = 0;
        while (v.barges.get(barge).place != place) {
            int at = v.barges.get(barge).place;
            int up = at < place ? 1 : 0;
            int took = go(v, barge, up, new ArrayList<>());
            if (took < 0) {
                return new long[] {-2, passed, up == 1 ? at : at - 1, -took};
            }
            minutes += took;
            passed++;
        }
        long tired = crew(v, barge).stream().mapToInt(s -> v.singers.get(s).tired).sum();
        return new long[] {minutes, passed, 0, tired};
    }

    long journey(int barge, int place) {
        if (!hasBarge(barge) || !hasPlace(place)) {
            return -1;
        }
        World v = w.copy();
        long[] end = travel(v, barge, place);
        tell(end[1], end[0] < 0 ? end[2] : w.water - v.water, end[3]);
        return end[0];
    }

    long hires(int barge, int place) {
        if (!hasBarge(barge) || !hasPlace(place)) {
            return -1;
        }
        int start = w.barges.get(barge).place;
        int all = bits(crew(w, -1));
        int crew = bits(crew(w, barge));
        int[] best = cheapest(all, set -> {
            int at = start;
            int with = crew;
            while (at != place) {
                with |= freeAt(at) & set;
                int lock = at < place ? at : at - 1;
                if (song(w, list(with), w.locks.get(lock).notes, jammed) == null) {
                    return false;
                }
                at += at < place ? 1 : -1;
            }
            return true;
        });
        if (best == null) {
            return -2;
        }
        tell(best[0]);
        return best[2];
    }

    long rested(int barge, int place) {
        if (!hasBarge(barge) || !hasPlace(place)) {
            return -1;
        }
        for (int minutes = 0; minutes <= 90; minutes += 10) {
            World v = w.copy();
            rest(v, minutes);
            long[] end = travel(v, barge, place);
            if (end[0] >= 0) {
                tell(end[0]);
                return minutes;
            }
        }
        return -2;
    }

    List<long[]> orders;

    long queue(int lock) {
        String t = read();
        if (!hasLock(lock)) {
            return -1;
        }
        for (int p = 0; p < t.length(); p++) {
            if (p == 14 || t.charAt(p) != 'u' && t.charAt(p) != 'd') {
                return -2 - p;
            }
        }
        if (t.isEmpty()) {
            return -2;
        }
        orders = new ArrayList<>();
        tryOrders(t, new ArrayList<>(), w.locks.get(lock).level);
        long[] best = Collections.min(orders, Arrays::compare);
        tell(Arrays.copyOfRange(best, 1, best.length));
        return best[0];
    }

    void tryOrders(String t, List<Integer> order, int start) {
        if (order.size() == t.length()) {
            orders.add(costOf(t, order, start));
        }
        boolean up = false;
        boolean down = false;
        for (int i = 0; i < t.length(); i++) {
            boolean rises = t.charAt(i) == 'u';
            if (order.contains(i) || (rises ? up : down)) {
                continue;
            }
            up |= rises;
            down |= !rises;
            List<Integer> longer = new ArrayList<>(order);
            longer.add(i);
            tryOrders(t, longer, start);
        }
    }

    long[] costOf(String t, List<Integer> order, int start) {
        long water = 0;
        long changes = 0;
        int level = start;
        for (int i : order) {
            int wants = t.charAt(i) == 'u' ? 0 : 1;
            if (level != wants) {
                changes++;
                water += level;
                level = wants;
            }
            water += level;
            level = 1 - level;
        }
        long[] all = new long[order.size() + 2];
        all[0] = water;
        all[1] = changes;
        for (int i = 0; i < order.size(); i++) {
            all[i + 2] = order.get(i);
        }
        return all;
    }

    long jams() {
        int best = -1;
        for (int a = 0; a < 26; a++) {
            for (int b = a + 1; b < 26; b++) {
                int many = 0;
                for (int k = 0; k < w.barges.size(); k++) {
                    int more = jammed | 1 << a | 1 << b;
                    boolean could = hindered(w, k, 1, jammed) == 0 || hindered(w, k, 0, jammed) == 0;
                    many += could && hindered(w, k, 1, more) < 0 && hindered(w, k, 0, more) < 0 ? 1 : 0;
                }
                if (many > best) {
                    best = many;
                    tell(a, b);
                }
            }
        }
        return best;
    }

    long hear(int note, int is) {
        if (note < 0 || note > 25 || is < 0 || is > 1 || heard.size() == 12) {
            return -1;
        }
        heard.add(new int[] {note, is});
        return heard.size();
    }

    long forget() {
        int many = heard.size();
        heard.clear();
        return many;
    }

    boolean has(int s, int note) {
        return w.singers.get(s).low <= note && note <= w.singers.get(s).high;
    }

    List<Integer> fits() {
        List<Integer> fits = new ArrayList<>();
        for (int s = 0; s < w.singers.size(); s++) {
            boolean fit = true;
            for (int[] h : heard) {
                fit &= has(s, h[0]) == (h[1] == 1);
            }
            if (fit) {
                fits.add(s);
            }
        }
        return fits;
    }

    long who() {
        tell(fits().size());
        return bits(fits());
    }

    long listen() {
        if (fits().isEmpty()) {
            return -2;
        }
        long best = 99;
        int at = -1;
        for (int note = 25; note >= 0; note--) {
            final int asked = note;
            long with = fits().stream().filter(s -> has(s, asked)).count();
            long most = Math.max(with, fits().size() - with);
            if (most <= best) {
                best = most;
                at = note;
            }
        }
        tell(best);
        return at;
    }

    long parts() {
        List<Integer> fits = fits();
        for (int many = 0; many <= 4; many++) {
            int x = (1 << many) - 1;
            // Sets of so many bits, in the order of their numbers.
            while (x < 1 << 26) {
                if (partedBy(fits, x)) {
                    tell(x);
                    return many;
                }
                if (x == 0) {
                    break;
                }
                int low = x & -x;
                int high = x + low;
                x = high | ((x ^ high) >>> 2) / low;
            }
        }
        return -2;
    }

    boolean partedBy(List<Integer> fits, int notes) {
        List<Integer> sung = new ArrayList<>();
        for (int s : fits) {
            int range = (1 << w.singers.get(s).high + 1) - (1 << w.singers.get(s).low);
            if (sung.contains(range & notes)) {
                return false;
            }
            sung.add(range & notes);
        }
        return true;
    }

    BigInteger[] chance(int n, int p) {
        BigInteger all = BigInteger.valueOf(10000);
        BigInteger fails = all.subtract(BigInteger.valueOf(10 - p).pow(4));
        return new BigInteger[] {all.pow(n).subtract(fails.pow(n)), all.pow(n)};
    }

    long opens(int n, int p) {
        if (n < 1 || n > 4 || p < 0 || p > 10) {
            return -1;
        }
        BigInteger[] c = chance(n, p);
        BigInteger by = c[0].gcd(c[1]);
        tell(c[0].divide(by).longValueExact(), c[1].divide(by).longValueExact());
        return 0;
    }

    long tries(int p, int v) {
        if (p < 0 || p > 10 || v < 0 || v > 100) {
            return -1;
        }
        for (int n = 1; n <= 4; n++) {
            BigInteger[] c = chance(n, p);
            if (c[0].multiply(BigInteger.valueOf(100)).compareTo(c[1].multiply(BigInteger.valueOf(v))) >= 0) {
                return n;
            }
        }
        return -2;
    }

    long rests(int c) {
        if (c < 0 || c > 9) {
            return -1;
        }
        int[][] gets = new int[10][10];
        for (int own = 0; own < 10; own++) {
            for (int other = 0; other < 10; other++) {
                gets[own][other] = own < other ? own - c : own > other ? 0 : (int) ((own - c) / 2.0);
            }
        }
        List<long[]> pairs = new ArrayList<>();
        for (int a = 0; a < 10; a++) {
            for (int b = 0; b < 10; b++) {
                boolean rests = true;
                for (int k = 0; k < 10; k++) {
                    rests &= gets[k][b] <= gets[a][b] && gets[k][a] <= gets[b][a];
                }
                if (rests) {
                    pairs.add(new long[] {a, b});
                }
            }
        }
        tell(pairs.isEmpty() ? new long[0] : pairs.get(0));
        return pairs.size();
    }

    long days(int seed, int n) {
        if (n < 1 || n > 60 || w.barges.isEmpty()) {
            return -1;
        }
        World v = w.copy();
        long r = seed;
        int passed = 0;
        for (int i = 0; i < n; i++) {
            r = r * 1103515245L + 12345L & 0xffffffffL;
            int barge = (int) (r / 65536 % v.barges.size());
            r = r * 1103515245L + 12345L & 0xffffffffL;
            int act = (int) (r / 65536 % 3);
            if (act == 2) {
                rest(v, 10);
            } else {
                passed += go(v, barge, act == 0 ? 1 : 0, new ArrayList<>()) >= 0 ? 1 : 0;
            }
        }
        tell(v.now - w.now, v.water);
        return passed;
    }

    long keep(int i) {
        if (i < 0 || i > 2) {
            return 0;
        }
        kept[i] = w.copy();
        return 1;
    }

    long again(int i) {
        if (i < 0 || i > 2 || kept[i] == null) {
            return 0;
        }
        back(kept[i]);
        past.clear();
        return 1;
    }
}
