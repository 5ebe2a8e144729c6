import java.util.ArrayList;
import java.util.List;
import java.util.function.Supplier;

/**
 * A call that is refused changes nothing but THE TEXT, which a call that reads it empties: of two
 * objects made alike one is asked besides what it refuses, and then both must answer alike.
 */
public final class LocksBySongRefusedTest extends Checks {
    private static final int[] FAR = {LEAST, -2, -1, GREATEST};
    private static final String TEXT = "r1;r2";

    public static void main(String[] args) {
        runAll(LocksBySongRefusedTest.class);
    }

    private interface Asked {
        long answer(LocksBySong x);
    }

    private static final class Refusal {
        final String name;
        final Asked asked;
        final long want;
        final String text;

        /** A text is that which the call reads; null if it reads none. */
        Refusal(String name, Asked asked, long want, String text) {
            this.name = name;
            this.asked = asked;
            this.want = want;
            this.text = text;
        }
    }

    // ---- the objects

    /** Crews, tired ones, jammed notes, a rule, what was heard, kept and can be undone, and a row. */
    private static LocksBySong busy() {
        LocksBySong x = canal("acef3;bdgi2;aaaa1", "ad0:5;cf0:7;eh0:9;fz0:20;az1:3;az1:99", "02;13;30");
        write(x, "n*2+t+w*7+m").rule();
        x.set(0, 11);
        x.keep(0);
        hired(x, 0, 0, 3);
        x.pass(0, 1);
        x.keep(2);
        x.rest(3);
        x.leave(1);
        x.hire(1, 4);
        x.set(1, 1 << 20 | 1 << 7);
        x.sheet(2, 6, 30, 13);
        x.heard(3, 1);
        x.heard(9, 0);
        x.opens(2, 5);
        return x;
    }

    /** No room for anything more: all counts are at their most. */
    private static LocksBySong crowded() {
        LocksBySong x = hired(full(), 0, 0, 3);
        hired(x, 1, 4, 7);
        for (int i = 0; i < 16; i++) {
            x.pass(i % 2, 1);
        }
        for (int i = 0; i < 12; i++) {
            x.heard(i, 1);
        }
        for (int i = 0; i < 3; i++) {
            x.keep(i);
            x.rest(1);
        }
        x.set(0, 0);
        write(x, repeat(14, "u")).queue(0);
        return x;
    }

    // ---- what there is to be seen

    private static List<Long> seen(LocksBySong x) {
        List<Long> all = new ArrayList<>();
        for (int what = 0; what < 13; what++) {
            all.add((long) x.count(what));
        }
        for (int k = 0; k < x.count(0) * 6; k++) {
            all.add((long) x.lock(k / 6, k % 6));
        }
        for (int k = 0; k < x.count(1) * 6; k++) {
            all.add((long) x.singer(k / 6, k % 6));
        }
        for (int k = 0; k < x.count(2) * 4; k++) {
            all.add((long) x.barge(k / 4, k % 4));
        }
        all.addAll(row(x));
        return all;
    }

    /** What is seen only by calls that tell rows or go back: the rule, what was heard, undone and kept. */
    private static List<Long> seenByCalls(LocksBySong x) {
        List<Long> all = new ArrayList<>();
        all.add((long) x.who());
        all.add((long) x.days(5, 9));
        all.addAll(row(x));
        for (int b = 0; b < x.count(2); b++) {
            all.add((long) x.journey(b, 0));
            all.add((long) x.journey(b, x.count(0)));
            all.addAll(row(x));
        }
        while (x.undo() >= 0) {
            all.addAll(moving(x));
        }
        for (int i = 0; i < 3; i++) {
            all.add(x.again(i) ? 1L : 0L);
            all.addAll(moving(x));
        }
        return all;
    }

    /** Some of what undo() and again() bring back, with few calls, since 512 are all that an object has. */
    private static List<Long> moving(LocksBySong x) {
        List<Long> all = new ArrayList<>();
        for (int what : new int[] {3, 4, 6, 7, 8, 10}) {
            all.add((long) x.count(what));
        }
        if (x.count(2) > 0) {
            all.add((long) x.barge(0, 0) * 10000 + x.barge(0, 2));
        }
        return all;
    }

    private interface Look {
        List<Long> at(LocksBySong x);
    }

    /** Two objects of a kind: one is asked what it refuses, and both are looked at. */
    private static void dueAlike(String what, Supplier<LocksBySong> maker, Refusal r, Look look) {
        LocksBySong asked = maker.get();
        LocksBySong other = maker.get();
        write(asked, r.text == null ? TEXT : r.text);
        write(other, r.text == null ? TEXT : "");
        due(what, r.asked.answer(asked), r.want);
        due(what + " leaves all as it is", look.at(asked).equals(look.at(other)), true);
    }

    /** Each look has objects of its own, since an object is used for 512 calls at most. */
    private static void dueNothingChanged(String state, Supplier<LocksBySong> maker, Refusal r) {
        String what = state + ": " + r.name;
        dueAlike(what, maker, r, LocksBySongRefusedTest::seen);
        dueAlike(what, maker, r, LocksBySongRefusedTest::seenByCalls);
        if (r.text == null) {
            dueAlike(what, maker, r, LocksBySongRefusedTest::seenByTheText);
        }
    }

    private static List<Long> seenByTheText(LocksBySong x) {
        List<Long> all = new ArrayList<>();
        all.add((long) x.day());
        all.addAll(row(x));
        all.add((long) x.count(3));
        return all;
    }

    private static void dueAll(String state, Supplier<LocksBySong> maker, List<Refusal> refusals) {
        for (Refusal r : refusals) {
            dueNothingChanged(state, maker, r);
        }
    }

    // ---- what is refused

    private static void add(List<Refusal> list, String name, long want, Asked asked) {
        list.add(new Refusal(name, asked, want, null));
    }

    private static void addText(List<Refusal> list, String name, String text, long want, Asked asked) {
        list.add(new Refusal(name, asked, want, text));
    }

    private static long thrown(Call call) {
        return throwsNoSuchElement(call) ? -999 : 0;
    }

    /** Each call with numbers of which there is none such, by how many there are. */
    private static List<Refusal> noneSuch(int locks, int singers, int barges) {
        List<Refusal> list = new ArrayList<>();
        addForLock(list, LEAST);
        addForLock(list, -1);
        addForLock(list, locks);
        addForLock(list, GREATEST);
        for (int k : new int[] {LEAST, -1, singers, GREATEST}) {
            add(list, "singer(" + k + ", 0)", -999, x -> thrown(() -> x.singer(k, 0)));
            add(list, "hire(0, " + k + ")", -1, x -> x.hire(0, k));
            add(list, "leave(" + k + ")", -1, x -> x.leave(k));
        }
        for (int k : new int[] {LEAST, -1, barges, GREATEST}) {
            addForBarge(list, k);
        }
        for (int k : new int[] {LEAST, -1, locks + 1, GREATEST}) {
            add(list, "journey(0, " + k + ")", -1, x -> x.journey(0, k));
            add(list, "hires(0, " + k + ")", -1, x -> x.hires(0, k));
            add(list, "rested(0, " + k + ")", -1, x -> x.rested(0, k));
        }
        return list;
    }

    private static void addForLock(List<Refusal> list, int k) {
        add(list, "lock(" + k + ", 0)", -999, x -> thrown(() -> x.lock(k, 0)));
        add(list, "sings(0, " + k + ")", -1, x -> x.sings(0, k));
        add(list, "lacks(0, " + k + ")", -1, x -> x.lacks(0, k));
        add(list, "spoils(0, " + k + ")", -1, x -> x.spoils(0, k));
        add(list, "shift(0, " + k + ")", -1, x -> x.shift(0, k));
        add(list, "voices(0, " + k + ")", -1, x -> x.voices(0, k));
        add(list, "pays(0, " + k + ")", -1, x -> x.pays(0, k));
        addText(list, "queue(" + k + ")", "ud", -1, x -> x.queue(k));
    }

    private static void addForBarge(List<Refusal> list, int k) {
        add(list, "barge(" + k + ", 0)", -999, x -> thrown(() -> x.barge(k, 0)));
        add(list, "hire(" + k + ", 0)", -1, x -> x.hire(k, 0));
        add(list, "pass(" + k + ", 1)", -1, x -> x.pass(k, 1));
        add(list, "pass(" + k + ", 0)", -1, x -> x.pass(k, 0));
        add(list, "sings(" + k + ", 0)", -1, x -> x.sings(k, 0));
        add(list, "lacks(" + k + ", 0)", -1, x -> x.lacks(k, 0));
        add(list, "spoils(" + k + ", 0)", -1, x -> x.spoils(k, 0));
        add(list, "shift(" + k + ", 0)", -1, x -> x.shift(k, 0));
        add(list, "voices(" + k + ", 0)", -1, x -> x.voices(k, 0));
        add(list, "pays(" + k + ", 0)", -1, x -> x.pays(k, 0));
        add(list, "journey(" + k + ", 0)", -1, x -> x.journey(k, 0));
        add(list, "hires(" + k + ", 0)", -1, x -> x.hires(k, 0));
        add(list, "rested(" + k + ", 0)", -1, x -> x.rested(k, 0));
    }

    /** Each call with numbers that are out of its bounds, whatever there is. */
    private static List<Refusal> outOfBounds() {
        List<Refusal> list = new ArrayList<>();
        for (int v : FAR) {
            add(list, "end(" + v + ")", 0, x -> x.end(v) ? 1 : 0);
            add(list, "set(0, " + v + ")", -1, x -> x.set(0, v));
            add(list, "set(1, " + v + ")", -1, x -> x.set(1, v));
            add(list, "set(" + v + ", 1)", -1, x -> x.set(v, 1));
            add(list, "sheet(" + v + ", 1, 1, 1)", -1, x -> x.sheet(v, 1, 1, 1));
            add(list, "rest(" + v + ")", -1, x -> x.rest(v));
            add(list, "heard(" + v + ", 1)", -1, x -> x.heard(v, 1));
            add(list, "heard(1, " + v + ")", -1, x -> x.heard(1, v));
            add(list, "opens(" + v + ", 1)", -1, x -> x.opens(v, 1));
            add(list, "opens(1, " + v + ")", -1, x -> x.opens(1, v));
            add(list, "tries(" + v + ", 1)", -1, x -> x.tries(v, 1));
            add(list, "tries(1, " + v + ")", -1, x -> x.tries(1, v));
            add(list, "rests(" + v + ")", -1, x -> x.rests(v));
            add(list, "days(1, " + v + ")", -1, x -> x.days(1, v));
            add(list, "keep(" + v + ")", 0, x -> x.keep(v) ? 1 : 0);
            add(list, "again(" + v + ")", 0, x -> x.again(v) ? 1 : 0);
            add(list, "count(" + v + ")", -100, x -> x.count(v));
            add(list, "row(" + v + ")", -999, x -> thrown(() -> x.row(v)));
        }
        addOneAbove(list);
        return list;
    }

    private static void addOneAbove(List<Refusal> list) {
        add(list, "end(6)", 0, x -> x.end(TEXT.length() + 1) ? 1 : 0);
        add(list, "set(0, 1000)", -1, x -> x.set(0, 1000));
        add(list, "set(1, 1 << 26)", -1, x -> x.set(1, 1 << 26));
        add(list, "set(2, 0)", -1, x -> x.set(2, 0));
        add(list, "sheet(4, 0, 0, 0)", -1, x -> x.sheet(4, 0, 0, 0));
        for (int kind = 0; kind < 4; kind++) {
            int k = kind;
            add(list, "sheet(" + k + ", 9, 1, 1)", -1, x -> x.sheet(k, 9, 1, 1));
            add(list, "sheet(" + k + ", greatest, 1, 1)", -1, x -> x.sheet(k, GREATEST, 1, 1));
        }
        for (int kind = 0; kind < 3; kind++) {
            int k = kind;
            add(list, "sheet(" + k + ", -1, 1, 1)", -2, x -> x.sheet(k, -1, 1, 1));
            add(list, "sheet(" + k + ", least, 1, 1)", -2, x -> x.sheet(k, LEAST, 1, 1));
        }
        add(list, "rest(601)", -1, x -> x.rest(601));
        add(list, "heard(26, 0)", -1, x -> x.heard(26, 0));
        add(list, "heard(0, 2)", -1, x -> x.heard(0, 2));
        add(list, "opens(0, 1)", -1, x -> x.opens(0, 1));
        add(list, "opens(5, 1)", -1, x -> x.opens(5, 1));
        add(list, "opens(1, 11)", -1, x -> x.opens(1, 11));
        add(list, "tries(11, 1)", -1, x -> x.tries(11, 1));
        add(list, "tries(1, 101)", -1, x -> x.tries(1, 101));
        add(list, "rests(10)", -1, x -> x.rests(10));
        add(list, "days(1, 0)", -1, x -> x.days(1, 0));
        add(list, "days(1, 61)", -1, x -> x.days(1, 61));
        add(list, "keep(3)", 0, x -> x.keep(3) ? 1 : 0);
        add(list, "again(3)", 0, x -> x.again(3) ? 1 : 0);
        add(list, "count(13)", -100, x -> x.count(13));
        add(list, "row(16)", -999, x -> thrown(() -> x.row(16)));
    }

    /** Texts that no call takes, whatever there is. */
    private static List<Refusal> wrongTexts() {
        List<Refusal> list = new ArrayList<>();
        addText(list, "locks()", "?", -1, LocksBySong::locks);
        addText(list, "singers()", "?", -1, LocksBySong::singers);
        addText(list, "barges()", "?", -1, LocksBySong::barges);
        addText(list, "rule()", "?", -1, LocksBySong::rule);
        addText(list, "rule()", "5+", -3, LocksBySong::rule);
        addText(list, "rule()", "5+5)", -4, LocksBySong::rule);
        addText(list, "rule()", "5" + repeat(20, "+5"), -41, LocksBySong::rule);
        addText(list, "day()", "?", -1, LocksBySong::day);
        addText(list, "day()", "r5;r5;", -7, LocksBySong::day);
        addText(list, "day()", "r5;" + times(20, "r0"), -61, LocksBySong::day);
        return list;
    }

    // ---- the sentences

    static void aNewObject() {
        dueAll("new", LocksBySong::new, noneSuch(0, 0, 0));
        dueAll("new", LocksBySong::new, outOfBounds());
        dueAll("new", LocksBySong::new, wrongTexts());
        List<Refusal> list = new ArrayList<>();
        add(list, "undo()", -1, LocksBySong::undo);
        add(list, "listen()", -2, LocksBySong::listen);
        add(list, "days(1, 1)", -1, x -> x.days(1, 1));
        for (int i = 0; i < 3; i++) {
            int k = i;
            add(list, "again(" + k + ")", 0, x -> x.again(k) ? 1 : 0);
        }
        addText(list, "locks()", "aaaa1;bbbb0", -11, LocksBySong::locks);
        addText(list, "singers()", "aa0:0;aa1:0", -9, LocksBySong::singers);
        addText(list, "barges()", "00;10", -4, LocksBySong::barges);
        dueAll("new", LocksBySong::new, list);
    }

    static void aBusyObject() {
        dueAll("busy", LocksBySongRefusedTest::busy, noneSuch(3, 6, 3));
        dueAll("busy", LocksBySongRefusedTest::busy, outOfBounds());
        dueAll("busy", LocksBySongRefusedTest::busy, wrongTexts());
    }

    static void aBusyObjectsOwnRefusals() {
        List<Refusal> list = new ArrayList<>();
        add(list, "hire of one who is not there", -2, x -> x.hire(2, 5));
        add(list, "hire of one in its crew", -2, x -> x.hire(0, 0));
        add(list, "hire of one in another crew", -2, x -> x.hire(0, 4));
        add(list, "hire of one who is too dear", -3, x -> x.hire(0, 5));
        add(list, "leave of one in no crew", -2, x -> x.leave(5));
        add(list, "pass where there is no lock", -2, x -> x.pass(2, 1));
        add(list, "pass without a crew", -3, x -> x.pass(2, 0));
        add(list, "pass with another up", -1, x -> x.pass(0, 2));
        add(list, "again(1)", 0, x -> x.again(1) ? 1 : 0);
        add(list, "voices by none", -2, x -> x.voices(2, 0));
        add(list, "pays by none", -2, x -> x.pays(2, 0));
        add(list, "shift with none", -2, x -> x.shift(2, 0));
        add(list, "hires by none", -2, x -> x.hires(2, 0));
        add(list, "rested not by 90", -2, x -> x.rested(2, 0));
        add(list, "tries by none", -2, x -> x.tries(9, 100));
        addText(list, "locks()", "aaaa1;bbbb2;baaa1", -14, LocksBySong::locks);
        addText(list, "locks()", times(6, "aaaa1"), -31, LocksBySong::locks);
        addText(list, "singers()", "bb0:9;dd4:1", -9, LocksBySong::singers);
        addText(list, "singers()", times(3, "aa0:0"), -13, LocksBySong::singers);
        addText(list, "barges()", "0", -2, LocksBySong::barges);
        addText(list, "barges()", "40", -1, LocksBySong::barges);
        addText(list, "barges()", "09;09", -4, LocksBySong::barges);
        for (int lock = 0; lock < 3; lock++) {
            int k = lock;
            addText(list, "queue of no signs", "", -2, x -> x.queue(k));
            addText(list, "queue of a wrong sign", "udx", -4, x -> x.queue(k));
            addText(list, "queue of fifteen", repeat(15, "u"), -16, x -> x.queue(k));
        }
        dueAll("busy", LocksBySongRefusedTest::busy, list);
    }

    static void aCrowdedObject() {
        dueAll("crowded", LocksBySongRefusedTest::crowded, noneSuch(8, 8, 4));
        dueAll("crowded", LocksBySongRefusedTest::crowded, wrongTexts());
        List<Refusal> list = new ArrayList<>();
        add(list, "a thirteenth heard", -1, x -> x.heard(25, 1));
        add(list, "a thirteenth not heard", -1, x -> x.heard(0, 0));
        add(list, "pass without water", -4, x -> x.pass(0, 0));
        add(list, "pass up from the last place", -2, x -> x.pass(1, 1));
        addText(list, "a ninth lock", "aaaa1", -1, LocksBySong::locks);
        addText(list, "a ninth singer", "aa0:0", -1, LocksBySong::singers);
        addText(list, "a fifth barge", "00", -1, LocksBySong::barges);
        addText(list, "nine locks", times(9, "aaaa1"), -1, LocksBySong::locks);
        dueAll("crowded", LocksBySongRefusedTest::crowded, list);
    }

    static void aFullTextTakesNoMore() {
        for (int size = 77; size <= 80; size++) {
            LocksBySong x = busy();
            LocksBySong y = busy();
            String text = "r1;r2;r3" + repeat(size - 8, "?");
            write(x, text);
            write(y, text);
            for (int v : new int[] {LEAST, -1, 0, GREATEST}) {
                due("sign(" + v + ") behind " + size, x.sign(v), -1);
            }
            due("all is alike", seen(x).equals(seen(y)), true);
            x.end(8);
            y.end(8);
            due("the text too", x.day() == 3 && y.day() == 3 && seen(x).equals(seen(y)), true);
        }
    }

    static void emptyTextsChangeNothing() {
        List<Refusal> list = new ArrayList<>();
        addText(list, "locks()", "", 0, LocksBySong::locks);
        addText(list, "singers()", "", 0, LocksBySong::singers);
        addText(list, "barges()", "", 0, LocksBySong::barges);
        dueAll("busy", LocksBySongRefusedTest::busy, list);
        dueAll("crowded", LocksBySongRefusedTest::crowded, list);
    }

    /** What only asks, and tells of nothing but the row, leaves all else. */
    static void askingChangesTheRowAlone() {
        Asked[] asked = {x -> x.sings(0, 0), x -> x.lacks(0, 1), x -> x.spoils(0, 2), x -> x.shift(1, 0), x -> x.voices(1, 2),
            x -> x.journey(0, 3), x -> x.journey(0, 0), x -> x.hires(1, 3), x -> x.rested(0, 0), x -> x.jams(), x -> x.who(),
            x -> x.listen(), x -> x.parts(), x -> x.opens(4, 3), x -> x.tries(3, 50), x -> x.rests(4), x -> x.pays(1, 2),
            x -> x.days(LEAST, 60), x -> x.days(GREATEST, 60)};
        for (int i = 0; i < asked.length; i++) {
            LocksBySong x = busy();
            LocksBySong y = busy();
            asked[i].answer(x);
            x.opens(2, 5);
            due("all is alike behind call " + i, seen(x).equals(seen(y)), true);
            due("by calls behind call " + i, seenByCalls(x).equals(seenByCalls(y)), true);
        }
    }
}
