import java.util.ArrayList;
import java.util.List;

/** For each sentence of the promises that names a bound: at it, one below, one above, none, and all. */
public final class LocksBySongEdgesTest extends Checks {
    private static final int[] FAR = {LEAST, LEAST + 1, -2, -1, GREATEST - 1, GREATEST};

    public static void main(String[] args) {
        runAll(LocksBySongEdgesTest.class);
    }

    private interface OfTwo {
        long answer(int a, int b);
    }

    /** An answer for each first number that is far out, and for each second one. */
    private static void dueFar(String call, OfTwo asked, int fine, int above, int alsoFine, int alsoAbove, long want) {
        for (int far : FAR) {
            due(call + "(" + far + ", " + alsoFine + ")", asked.answer(far, alsoFine), want);
            due(call + "(" + fine + ", " + far + ")", asked.answer(fine, far), want);
            due(call + "(" + far + ", " + far + ")", asked.answer(far, far), want);
        }
        due(call + "(" + above + ", " + alsoFine + ")", asked.answer(above, alsoFine), want);
        due(call + "(" + fine + ", " + alsoAbove + ")", asked.answer(fine, alsoAbove), want);
    }

    private static long orThrown(Call asked) {
        return throwsNoSuchElement(asked) ? -999 : asked.answer();
    }

    // ---- promise 1

    static void p01_nothingIsThere() {
        LocksBySong x = new LocksBySong();
        int[] want = {0, 0, 0, 0, 20, 0, 0, 0, 0, 0, 0, 0, 0};
        for (int what = 0; what < want.length; what++) {
            due("count(" + what + ")", x.count(what), want[what]);
        }
        dueNone("lock(0, 0)", () -> x.lock(0, 0));
        dueNone("singer(0, 0)", () -> x.singer(0, 0));
        dueNone("barge(0, 0)", () -> x.barge(0, 0));
        dueNone("row(0)", () -> x.row(0));
    }

    static void p01_place0IsThereWithoutLocks() {
        LocksBySong x = canal("", "az0:0", "00");
        due("singers", x.count(1), 1);
        due("up", x.pass(0, 1), -2);
        due("down", x.pass(0, 0), -2);
        due("hire", x.hire(0, 0), 100);
        due("journey(0, 0)", x.journey(0, 0), 0);
        due("journey(0, 1)", x.journey(0, 1), -1);
        due("hires(0, 0)", x.hires(0, 0), 0);
        due("rested(0, 0)", x.rested(0, 0), 0);
        due("sings(0, 0)", x.sings(0, 0), -1);
        due("voices(0, 0)", x.voices(0, 0), -1);
        due("jams", x.jams(), 0);
        dueRow(x, 0, 1);
        due("days", x.days(0, 60), 0);
    }

    // ---- promises 8 to 10

    static void p08_noneSuchOrAnotherWhat() {
        LocksBySong x = full();
        dueFar("lock", (a, b) -> orThrown(() -> x.lock(a, b)), 0, 8, 0, 6, -999);
        dueFar("lock", (a, b) -> orThrown(() -> x.lock(a, b)), 7, 9, 5, 7, -999);
        int[] want = {0, 0, 0, 0, 1, 0};
        for (int what = 0; what < 6; what++) {
            due("lock(7, " + what + ")", x.lock(7, what), want[what]);
        }
    }

    static void p09_noneSuchOrAnotherWhat() {
        LocksBySong x = full();
        dueFar("singer", (a, b) -> orThrown(() -> x.singer(a, b)), 0, 8, 0, 6, -999);
        dueFar("singer", (a, b) -> orThrown(() -> x.singer(a, b)), 7, 9, 5, 7, -999);
        int[] want = {0, 25, 0, 0, 0, -1};
        for (int what = 0; what < 6; what++) {
            due("singer(7, " + what + ")", x.singer(7, what), want[what]);
        }
    }

    static void p09_thePlaceIsThatOfItsBargeToo() {
        LocksBySong x = hired(canal("aaaa1;aaaa1", times(4, "az0:0") + ";az2:0", "00"), 0, 0, 3);
        for (int place = 0; place <= 2; place++) {
            due("place", x.singer(3, 4), place);
            due("place of one who stays", x.singer(4, 4), 2);
            x.pass(0, 1);
        }
        x.leave(3);
        x.leave(2);
        x.leave(1);
        due("place of one who left", x.singer(3, 4), 2);
        due("barge of one who left", x.singer(3, 5), -1);
        due("barge of one who did not", x.singer(0, 5), 0);
    }

    static void p10_noneSuchOrAnotherWhat() {
        LocksBySong x = full();
        dueFar("barge", (a, b) -> orThrown(() -> x.barge(a, b)), 0, 4, 0, 4, -999);
        dueFar("barge", (a, b) -> orThrown(() -> x.barge(a, b)), 3, 5, 3, 5, -999);
        int[] want = {0, 0, 100, 0};
        for (int what = 0; what < 4; what++) {
            due("barge(3, " + what + ")", x.barge(3, what), want[what]);
        }
    }

    static void p10_crewsAsBits() {
        LocksBySong x = full();
        for (int s = 0; s < 8; s++) {
            x.hire(s % 4, s);
        }
        for (int b = 0; b < 4; b++) {
            due("crew of " + b, x.barge(b, 3), 17 << b);
        }
        for (int s = 0; s < 8; s++) {
            x.leave(s);
            x.hire(3, s);
        }
        due("a crew of all", x.barge(3, 3), 255);
        due("of none", x.barge(0, 3), 0);
    }

    // ---- promise 11

    static void p11_water() {
        LocksBySong x = new LocksBySong();
        due("set(0, 0)", x.set(0, 0), 20);
        due("set(0, 999)", x.set(0, 999), 0);
        for (int v : new int[] {LEAST, -1, 1000, 1001, GREATEST}) {
            due("set(0, " + v + ")", x.set(0, v), -1);
            due("water", x.count(4), 999);
        }
        due("set(0, 1)", x.set(0, 1), 999);
    }

    static void p11_jammed() {
        LocksBySong x = new LocksBySong();
        int all = (1 << 26) - 1;
        due("all", x.set(1, all), 0);
        for (int v : new int[] {LEAST, -1, 1 << 26, all + 2, 1 << 30, GREATEST}) {
            due("set(1, " + v + ")", x.set(1, v), -1);
            due("jammed", x.count(5), all);
        }
        due("the highest alone", x.set(1, 1 << 25), all);
        due("none", x.set(1, 0), 1 << 25);
        due("jammed", x.count(5), 0);
    }

    static void p11_anotherWhat() {
        LocksBySong x = new LocksBySong();
        for (int what : new int[] {LEAST, -1, 2, 3, GREATEST}) {
            due("set(" + what + ", 0)", x.set(what, 0), -1);
        }
        due("water", x.count(4), 20);
    }

    // ---- promise 12

    static void p12_bytesHaveTheLowestBitsWithTheirSign() {
        int[][] told = {{0, 0}, {1, 1}, {98, 98}, {99, 99}, {100, 99}, {127, 99}, {128, 0}, {255, 0}, {256, 0}, {257, 1},
            {355, 99}, {384, 0}, {-1, 0}, {-128, 0}, {-129, 99}, {-255, 1}, {-256, 0}, {LEAST, 0}, {GREATEST, 0}, {GREATEST - 254, 1}};
        for (int[] t : told) {
            LocksBySong x = full();
            due("sheet of a byte " + t[0], x.sheet(0, 1, t[0], 5), t[1]);
            dueFees(x, t[1], 0, 0, 0, 0, 0, 0, 0);
        }
    }

    static void p12_shortsHaveTheLowestBitsWithTheirSign() {
        int[][] told = {{0, 0}, {1, 1}, {99, 99}, {100, 99}, {128, 99}, {256, 99}, {32767, 99}, {32768, 0}, {65535, 0}, {65536, 0},
            {65537, 1}, {-1, 0}, {-32768, 0}, {-32769, 99}, {-65535, 1}, {LEAST, 0}, {LEAST + 7, 7}, {GREATEST, 0}};
        for (int[] t : told) {
            LocksBySong x = full();
            due("sheet of a short " + t[0], x.sheet(1, 1, t[0], 5), t[1]);
            dueFees(x, t[1], 0, 0, 0, 0, 0, 0, 0);
        }
    }

    static void p12_intsArePutTo0To99() {
        int[][] told = {{LEAST, 0}, {-1, 0}, {0, 0}, {1, 1}, {98, 98}, {99, 99}, {100, 99}, {256, 99}, {65536, 99}, {GREATEST, 99}};
        for (int[] t : told) {
            LocksBySong x = full();
            due("sheet of an int " + t[0], x.sheet(2, 1, t[0], 5), t[1]);
            dueFees(x, t[1], 0, 0, 0, 0, 0, 0, 0);
        }
    }

    static void p12_stepsAreAsInts() {
        LocksBySong x = full();
        due("from the greatest by 1", x.sheet(2, 8, GREATEST, 1), 99);
        due("by the greatest", x.sheet(2, 8, GREATEST, GREATEST), 4 * 99);
        dueFees(x, 99, 0, 99, 0, 99, 0, 99, 0);
        due("by the least", x.sheet(2, 8, 7, LEAST), 4 * 7);
        dueFees(x, 7, 0, 7, 0, 7, 0, 7, 0);
        due("bytes by 64", x.sheet(0, 8, 1, 64), 132);
        dueFees(x, 1, 65, 0, 0, 1, 65, 0, 0);
        due("down", x.sheet(2, 8, 5, -1), 15);
        dueFees(x, 5, 4, 3, 2, 1, 0, 0, 0);
        due("by none", x.sheet(1, 8, 3, 0), 24);
    }

    static void p12_noneToEightEntries() {
        for (int n = 0; n <= 8; n++) {
            for (int kind = 0; kind < 3; kind++) {
                LocksBySong x = canal("", times(8, "az0:50"), "");
                due("sheet of " + n, x.sheet(kind, n, 9, 0), 9 * n);
                for (int s = 0; s < 8; s++) {
                    due("fee " + s, x.singer(s, 2), s < n ? 9 : 0);
                }
            }
        }
    }

    static void p12_belowNoneChangesNothing() {
        for (int n : new int[] {-1, -2, LEAST}) {
            for (int kind = 0; kind < 3; kind++) {
                LocksBySong x = usual();
                due("sheet of " + n, x.sheet(kind, n, 1, 1), -2);
                dueFees(x, 5, 7, 9, 20);
            }
        }
    }

    static void p12_aMissingOne() {
        for (int n : new int[] {LEAST, -1, 0, 1, 8}) {
            LocksBySong x = usual();
            due("a missing one of " + n, x.sheet(3, n, 7, 7), -3);
            dueFees(x, 0, 0, 0, 0);
        }
        due("of nobody", new LocksBySong().sheet(3, 0, 0, 0), -3);
    }

    static void p12_anotherKindOrAboveEightComesFirst() {
        LocksBySong x = usual();
        for (int kind : new int[] {LEAST, -1, 4, 5, GREATEST}) {
            for (int n : new int[] {LEAST, -1, 0, 8, 9, GREATEST}) {
                due("kind " + kind + " of " + n, x.sheet(kind, n, 1, 1), -1);
            }
        }
        for (int kind = 0; kind <= 3; kind++) {
            for (int n : new int[] {9, 10, GREATEST}) {
                due("kind " + kind + " of " + n, x.sheet(kind, n, 1, 1), -1);
            }
        }
        dueFees(x, 5, 7, 9, 20);
    }

    static void p12_feesAreThoseOfTheSingersThatThereAre() {
        due("of nobody", new LocksBySong().sheet(2, 0, 5, 5), 0);
        LocksBySong x = canal("", "az0:1;az0:2", "");
        due("two of two", x.sheet(2, 2, 5, 1), 11);
        due("eight for two", x.sheet(2, 8, 5, 1), 11);
        dueSingers(x, "az0:3", 1);
        dueFees(x, 5, 6, 3);
    }

    // ---- promises 13 and 14

    static void p13_noneSuch() {
        LocksBySong x = full();
        dueFar("hire", x::hire, 0, 4, 0, 8, -1);
        dueFar("hire", x::hire, 3, 5, 7, 9, -1);
        due("free", x.count(7), 255);
        due("the last of both", x.hire(3, 7), 100);
        due("without barges", canal("", "az0:0", "").hire(0, 0), -1);
        due("without singers", canal("", "", "00").hire(0, 0), -1);
    }

    static void p13_notThereOrInACrew() {
        LocksBySong x = canal("aaaa1", "az0:0;az1:0;az0:99", "00;00;10");
        due("another place", x.hire(0, 1), -2);
        due("another place", x.hire(2, 0), -2);
        due("hired", x.hire(0, 0), 100);
        due("in its crew", x.hire(0, 0), -2);
        due("in the crew of a barge there", x.hire(1, 0), -2);
        due("not there comes ahead of the purse", x.hire(2, 2), -2);
        due("purse", x.barge(2, 2), 100);
    }

    static void p13_thePurse() {
        LocksBySong x = canal("", "az0:50;az0:51;az0:50;az0:1;az0:0", "00");
        due("50", x.hire(0, 0), 50);
        due("one more than it has", x.hire(0, 1), -3);
        due("purse", x.barge(0, 2), 50);
        due("crew", x.barge(0, 3), 1);
        due("as much as it has", x.hire(0, 2), 0);
        due("1 of none", x.hire(0, 3), -3);
        due("0 of none", x.hire(0, 4), 0);
        due("done", x.count(10), 3);
    }

    static void p14_noneSuchOrInNone() {
        LocksBySong x = full();
        for (int far : FAR) {
            due("leave(" + far + ")", x.leave(far), -1);
        }
        due("leave(8)", x.leave(8), -1);
        due("leave(7)", x.leave(7), -2);
        due("leave(0)", x.leave(0), -2);
        x.hire(3, 7);
        due("of which barge", x.leave(7), 3);
        due("again", x.leave(7), -2);
        due("without singers", new LocksBySong().leave(0), -1);
    }

    // ---- promise 15

    static void p15_noSuchBargeOrAnotherUp() {
        LocksBySong x = hired(full(), 0, 0, 7);
        dueFar("pass", x::pass, 0, 4, 1, 2, -1);
        due("pass(4, 0)", x.pass(4, 0), -1);
        due("without barges", canal("aaaa1", "", "").pass(0, 1), -1);
        due("now", x.count(3), 0);
    }

    static void p15_whyItCannotInOrder() {
        LocksBySong x = canal("aaaa1", times(4, "az1:0"), "10;00");
        x.set(0, 0);
        due("no lock, no crew, no water", x.pass(0, 1), -2);
        due("no lock, no crew, no water", x.pass(1, 0), -2);
        due("no crew, no water", x.pass(0, 0), -3);
        hired(x, 0, 0, 2);
        due("three, no water", x.pass(0, 0), -3);
        hired(x, 0, 3, 3);
        due("no water", x.pass(0, 0), -4);
        x.set(1, 1);
        due("jammed, no water", x.pass(0, 0), -3);
        x.set(1, 2);
        x.set(0, 1);
        due("it can", x.pass(0, 0), 5);
        due("no lock, crew", x.pass(0, 0), -2);
        due("no water is left", x.count(4), 0);
        due("up a low lock without water", x.pass(0, 1), 4);
        due("done", x.count(10), 6);
    }

    static void p15_theRowIsToldIfItCan() {
        LocksBySong x = hired(canal("aaaa1", "bb0:0;" + times(5, "az0:0"), "00"), 0, 0, 5);
        x.opens(1, 5);
        x.set(1, 1);
        x.pass(0, 1);
        dueRow(x, 1, 16);
        x.set(1, 0);
        x.pass(0, 1);
        dueRow(x, 1, 2, 3, 4);
    }

    // ---- promise 16

    static void p16_noneTo600() {
        LocksBySong x = new LocksBySong();
        for (int n : new int[] {LEAST, -1, 601, GREATEST}) {
            due("rest(" + n + ")", x.rest(n), -1);
        }
        due("nothing to undo", x.count(10), 0);
        due("rest(0)", x.rest(0), 0);
        due("rest(1)", x.rest(1), 1);
        due("rest(599)", x.rest(599), 600);
        due("rest(600)", x.rest(600), 1200);
        due("done", x.count(10), 4);
    }

    /** Minutes from a start, and by how much four who are nine times tired are less so then. */
    private static void dueLess(int start, int minutes, int less) {
        LocksBySong x = hired(canal("aaaa1", times(4, "az0:0"), "00"), 0, 0, 3);
        dueRule(x, "1", 0);
        for (int i = 1; i <= 9; i++) {
            x.pass(0, i % 2);
        }
        dueRule(x, String.valueOf(start - 9), 0);
        x.pass(0, 0);
        due("now", x.count(3), start);
        due("tired", x.count(8), 36);
        x.rest(minutes);
        due("tired after " + minutes + " from " + start, x.count(8), 36 - 4 * less);
    }

    static void p16_atEachMultipleOf10() {
        dueLess(10, 0, 0);
        dueLess(10, 1, 0);
        dueLess(10, 9, 0);
        dueLess(10, 10, 1);
        dueLess(10, 11, 1);
        dueLess(10, 19, 1);
        dueLess(10, 20, 2);
        dueLess(11, 8, 0);
        dueLess(11, 9, 1);
        dueLess(11, 18, 1);
        dueLess(11, 19, 2);
        dueLess(19, 0, 0);
        dueLess(19, 1, 1);
        dueLess(19, 10, 1);
        dueLess(19, 11, 2);
        dueLess(15, 84, 8);
        dueLess(15, 85, 9);
        dueLess(15, 95, 9);
        dueLess(15, 600, 9);
    }

    static void p16_allRestAndNoneBelow0() {
        LocksBySong x = hired(canal("aaaa1", times(6, "az0:0"), "00"), 0, 0, 3);
        dueRule(x, "1", 0);
        x.pass(0, 1);
        x.pass(0, 0);
        x.leave(0);
        x.hire(0, 4);
        x.pass(0, 1);
        int[] before = {2, 3, 3, 3, 1, 0};
        int[] after = {0, 1, 1, 1, 0, 0};
        for (int s = 0; s < 6; s++) {
            due("tired " + s, x.singer(s, 3), before[s]);
        }
        x.rest(17);
        for (int s = 0; s < 6; s++) {
            due("tired " + s, x.singer(s, 3), after[s]);
        }
    }

    // ---- promise 17

    /** A barge whose purse has 1, one with a singer, and one at place 1 with a crew, but without water. */
    private static LocksBySong hindered() {
        LocksBySong x = canal("aaaa1", "az0:99;az0:99;az0:9;" + times(4, "az1:0"), "00;00;10");
        x.hire(0, 0);
        x.leave(0);
        x.hire(1, 2);
        hired(x, 2, 3, 6);
        x.set(0, 0);
        return x;
    }

    static void p17_anyActThatIsRefusedEndsIt() {
        String[] texts = {"h30", "h07", "h00", "h12", "h02", "h20", "l7", "l0", "u3", "d3", "d0", "u2", "u0", "u1", "d2", "r601", "r999"};
        for (String text : texts) {
            LocksBySong x = hindered();
            dueDay(x, "r2;" + text + ";r5", 1);
            dueRow(x, 1, 0);
            due("now", x.count(3), 2);
            LocksBySong y = hindered();
            int had = y.count(10);
            dueDay(y, text + ";r5", 0);
            dueRow(y, 1, 0);
            due("now", y.count(3), 0);
            due("nothing more to undo", y.count(10), had);
        }
    }

    static void p17_digitsOfNoneSuch() {
        LocksBySong x = full();
        dueDay(x, "r1;h99", 1);
        dueRow(x, 1, 0);
        dueDay(x, "r1;l9", 1);
        dueDay(x, "r1;u9", 1);
        dueDay(x, "r1;d9;r9", 1);
        due("now", x.count(3), 4);
        dueDay(x, "h37;l7;h37", 3);
        dueRow(x, 0, 0);
        due("crew", x.barge(3, 3), 128);
    }

    static void p17_theFirstDigitIsTheBarge() {
        LocksBySong x = full();
        dueDay(x, "h10;h21;h32;h03;h37;l1;h11", 7);
        int[] crews = {8, 3, 0, 4 + 128};
        for (int b = 0; b < 4; b++) {
            due("crew of " + b, x.barge(b, 3), crews[b]);
        }
    }

    static void p17_asMuchAsFits() {
        LocksBySong x = full();
        dueDay(x, "h00;h01;h02;h03;u0;u0;u0;u0;u0;u0;u0;u0;d0;d0;d0;d0;r600", 17);
        dueRow(x, 0, 12);
        due("place", x.barge(0, 0), 4);
        due("water", x.count(4), 16);
        due("as one", x.undo(), 0);
        due("place", x.barge(0, 0), 0);
        due("water", x.count(4), 20);
        due("free", x.count(7), 255);
    }

    static void p17_theRowOfTheLocksGoneThrough() {
        LocksBySong x = hired(full(), 0, 0, 3);
        dueDay(x, "u0;u0;d0;d0;d0;r1", 4);
        dueRow(x, 1, 4);
        due("now", x.count(3) > 0, true);
        dueDay(x, "r0;l0;h00", 3);
        dueRow(x, 0, 0);
    }

    // ---- promise 18

    static void p18_fifteenAndNoSixteenth() {
        for (int done = 0; done <= 34; done++) {
            LocksBySong x = new LocksBySong();
            for (int i = 0; i < done; i++) {
                x.rest(1);
            }
            int kept = Math.min(15, done);
            due("what can be undone of " + done, x.count(10), kept);
            for (int i = kept - 1; i >= 0; i--) {
                due("undo", x.undo(), i);
                due("now", x.count(3), done - kept + i);
            }
            due("none is left", x.undo(), -1);
            due("now", x.count(3), done - kept);
        }
    }

    static void p18_newOnesAfterSomeWereUndone() {
        LocksBySong x = new LocksBySong();
        for (int i = 0; i < 20; i++) {
            x.rest(1);
        }
        for (int i = 0; i < 7; i++) {
            x.undo();
        }
        for (int i = 0; i < 9; i++) {
            x.rest(10);
        }
        due("now", x.count(3), 103);
        due("what can be undone", x.count(10), 15);
        for (int i = 0; i < 15; i++) {
            x.undo();
        }
        due("now", x.count(3), 7);
        due("none is left", x.undo(), -1);
    }

    static void p18_suchAsWereDone() {
        LocksBySong x = canal("aaaa1", "aa0:99;aa0:99;az1:0", "00");
        x.hire(0, 1);
        due("one", x.count(10), 1);
        long[] refused = {x.hire(0, 0), x.hire(0, 1), x.hire(0, 2), x.hire(1, 0), x.leave(0), x.leave(3), x.pass(0, 0), x.pass(0, 1),
            x.pass(1, 1), x.rest(601), write(x, "r601").day(), write(x, "").day(), write(x, "x").day()};
        long[] want = {-3, -2, -2, -1, -2, -1, -2, -3, -1, -1, 0, 0, -1};
        for (int i = 0; i < want.length; i++) {
            due("call " + i, refused[i], want[i]);
        }
        due("still one", x.count(10), 1);
        due("undo", x.undo(), 0);
        due("purse", x.barge(0, 2), 100);
    }

    static void p18_aDayOfWhichOneActWasDone() {
        LocksBySong x = usual();
        dueDay(x, "r3;u0;r5", 1);
        due("one", x.count(10), 1);
        due("undo", x.undo(), 0);
        due("now", x.count(3), 0);
        dueDay(x, "u0;r5", 0);
        due("none", x.count(10), 0);
    }

    static void p18_allIsAsAheadOfIt() {
        LocksBySong x = hired(canal("aaaa1;aaaa1", times(4, "az0:9"), "00"), 0, 0, 3);
        x.pass(0, 1);
        x.pass(0, 0);
        due("undo", x.undo(), 5);
        due("level", x.count(6), 1);
        due("water", x.count(4), 20);
        due("now", x.count(3), 2);
        due("tired", x.count(8), 4);
        due("place", x.barge(0, 0), 1);
        x.leave(2);
        due("undo", x.undo(), 5);
        due("crew", x.barge(0, 3), 15);
        x.leave(2);
        x.hire(0, 2);
        due("purse", x.barge(0, 2), 55);
        due("undo", x.undo(), 6);
        due("purse", x.barge(0, 2), 64);
        due("barge", x.singer(2, 5), -1);
        due("place", x.singer(2, 4), 1);
        x.rest(20);
        due("undo", x.undo(), 6);
        due("tired", x.count(8), 4);
        due("now", x.count(3), 2);
    }

    static void p18_whereSingersAreIsAsAheadOfIt() {
        LocksBySong x = canal("aaaa1", times(4, "az0:0"), "00");
        x.keep(0);
        hired(x, 0, 0, 3);
        x.pass(0, 1);
        x.leave(2);
        due("it left", x.singer(2, 4), 1);
        for (int left = 5; left >= 0; left--) {
            due("undo", x.undo(), left);
        }
        due("free", x.count(7), 15);
        due("where it was", x.singer(2, 4), 0);
        due("it can be hired there", x.hire(0, 2), 100);
        due("undo", x.undo(), 0);
        hired(x, 0, 0, 3);
        x.pass(0, 1);
        x.leave(1);
        due("again", x.again(0), true);
        due("where it was", x.singer(1, 4), 0);
    }

    static void p18_othersStay() {
        LocksBySong x = hired(usual(), 0, 0, 3);
        x.rest(5);
        x.set(1, 3);
        x.sheet(2, 4, 2, 0);
        x.heard(1, 1);
        dueRule(x, "42", 0);
        x.opens(1, 5);
        x.sign(0);
        x.keep(1);
        due("undo", x.undo(), 4);
        due("jammed", x.count(5), 3);
        dueFees(x, 2, 2, 2, 2);
        due("heard", x.count(9), 1);
        due("text", x.count(12), 4);
        dueRow(x, 1, 16);
        x.set(1, 0);
        due("the rule", x.journey(0, 1), 42);
        due("what was kept", x.again(1), true);
        due("now", x.count(3), 5);
    }

    static void p18_whatForgets() {
        String[][] texts = {{"aaaa1", "x", ""}, {"aa0:0", "aa", ""}, {"00", "0", ""}};
        for (int kind = 0; kind < 3; kind++) {
            for (int t = 2; t >= 0; t--) {
                LocksBySong x = new LocksBySong();
                x.rest(1);
                write(x, texts[kind][t]);
                int answer = kind == 0 ? x.locks() : kind == 1 ? x.singers() : x.barges();
                due("told " + texts[kind][t], answer > 0, t == 0);
                due("what can be undone", x.count(10), t == 0 ? 0 : 1);
                due("undo", x.undo(), t == 0 ? -1 : 0);
            }
        }
    }

    static void p18_againForgetsIfItIsNotRefused() {
        LocksBySong x = new LocksBySong();
        x.keep(0);
        x.rest(1);
        due("again(1)", x.again(1), false);
        due("again(3)", x.again(3), false);
        due("what can be undone", x.count(10), 1);
        due("again(0)", x.again(0), true);
        due("what can be undone", x.count(10), 0);
        due("undo", x.undo(), -1);
    }

    static void p18_theRuleSetAndSheetForgetNothing() {
        LocksBySong x = usual();
        x.rest(1);
        dueRule(x, "5", 0);
        x.set(0, 5);
        x.set(1, 5);
        x.sheet(3, 0, 0, 0);
        x.keep(0);
        due("what can be undone", x.count(10), 1);
    }

    // ---- promises 19 to 23

    private static void dueNoneSuchLock(String call, OfTwoOf asked) {
        LocksBySong x = hired(full(), 3, 0, 7);
        dueFar(call, (a, b) -> asked.answer(x, a, b), 0, 4, 0, 8, -1);
        dueFar(call, (a, b) -> asked.answer(x, a, b), 3, 5, 7, 9, -1);
        due(call + "(3, 7) can be asked", asked.answer(x, 3, 7) >= 0, true);
        due(call + " without barges", asked.answer(canal("aaaa1", "az0:0", ""), 0, 0), -1);
        due(call + " without locks", asked.answer(canal("", "az0:0", "00"), 0, 0), -1);
        due(call + " of a new object", asked.answer(new LocksBySong(), 0, 0), -1);
    }

    private interface OfTwoOf {
        long answer(LocksBySong x, int a, int b);
    }

    static void p19_noneSuch() {
        dueNoneSuchLock("sings", LocksBySong::sings);
    }

    static void p19_nothingIsToldForNo() {
        LocksBySong x = canal("aaaa1", times(4, "az0:0"), "00");
        x.opens(1, 5);
        due("no crew", x.sings(0, 0), 0);
        dueRow(x);
        dueNone("row(0)", () -> x.row(0));
    }

    static void p19_withoutSingers() {
        due("no singers", canal("aaaa1", "", "00").sings(0, 0), 0);
    }

    static void p20_noneSuch() {
        dueNoneSuchLock("lacks", LocksBySong::lacks);
    }

    static void p20_noneToFour() {
        LocksBySong x = canal("aaaa1", times(5, "az0:0"), "00");
        for (int s = 0; s <= 5; s++) {
            int many = Math.min(4, s);
            due(s + " sing", x.lacks(0, 0), many);
            dueRow(x, (1 << many) - 1);
            x.hire(0, s);
        }
    }

    static void p20_ofAsManyTheLeastBits() {
        LocksBySong x = hired(canal("abcd1;aabb1", "bd0:0;dd0:0;bb0:0", "00"), 0, 0, 0);
        due("one for b, c, d", x.lacks(0, 0), 1);
        dueRow(x, 2);
        x.hire(0, 1);
        due("another for d", x.lacks(0, 0), 2);
        dueRow(x, 2 + 8);
        x.hire(0, 2);
        due("another for b", x.lacks(0, 0), 3);
        dueRow(x, 14);
        due("two for b, b", x.lacks(0, 1), 2);
        dueRow(x, 12);
        x.leave(0);
        due("one for b, b", x.lacks(0, 1), 1);
        dueRow(x, 4);
    }

    static void p20_jammedNotesAreNotSung() {
        LocksBySong x = hired(canal("abcd1", times(8, "az0:0"), "00"), 0, 0, 7);
        for (int jammed = 0; jammed < 16; jammed++) {
            x.set(1, jammed);
            due("lacks", x.lacks(0, 0), 4 - Integer.bitCount(jammed));
            dueRow(x, 15 & ~jammed);
        }
    }

    static void p21_noneSuch() {
        dueNoneSuchLock("spoils", LocksBySong::spoils);
    }

    static void p21_fiveOfEight() {
        LocksBySong x = hired(full(), 3, 0, 7);
        due("five of eight", x.spoils(3, 7), 5);
        dueRow(x, 31);
    }

    static void p21_itDoesNotAsItIs() {
        LocksBySong x = canal("aaaa1", times(8, "az0:0"), "00");
        for (int s = 0; s < 8; s++) {
            due("spoils a crew of " + s, x.spoils(0, 0), Math.max(0, s - 3));
            dueRow(x, s < 4 ? 0 : (1 << s - 3) - 1);
            x.hire(0, s);
        }
        x.set(1, 1);
        due("jammed", x.spoils(0, 0), 0);
        dueRow(x, 0);
    }

    static void p21_ofAsFewTheLeast() {
        LocksBySong x = hired(canal("abyz1", "az0:0;yz0:0;yz0:0;ab0:0;ab0:0", "00"), 0, 0, 4);
        due("two of five", x.spoils(0, 0), 2);
        dueRow(x, 3);
        LocksBySong y = hired(canal("aaay1", "aa0:0;aa0:0;aa0:0;aa0:0;aa0:0;aa0:0;yy0:0;yy0:0", "00"), 0, 0, 7);
        due("two of eight", y.spoils(0, 0), 2);
        dueRow(y, 64 + 128);
    }

    static void p22_noneSuch() {
        dueNoneSuchLock("shift", LocksBySong::shift);
    }

    static void p22_from25DownTo25Up() {
        LocksBySong x = hired(canal("aaaa1;zzzz1;bbbb1;yyyy1", times(4, "zz0:0") + ";" + times(4, "aa0:0"), "00"), 0, 0, 3);
        int[] up = {125, 100, 124, 101};
        int[] down = {100, 75, 99, 76};
        for (int lock = 0; lock < 4; lock++) {
            due("up", x.shift(0, lock), up[lock]);
            dueRow(x, 0, 1, 2, 3);
        }
        for (int s = 0; s < 4; s++) {
            x.leave(s);
            x.hire(0, s + 4);
        }
        for (int lock = 0; lock < 4; lock++) {
            due("down", x.shift(0, lock), down[lock]);
            dueRow(x, 4, 5, 6, 7);
        }
    }

    static void p22_allMustStayWithin() {
        LocksBySong x = hired(canal("abyz1;bcyz1;abxy1", times(4, "az0:0"), "00"), 0, 0, 3);
        x.set(1, 1);
        due("no room at all", x.shift(0, 0), -2);
        due("one down is jammed, none up", x.shift(0, 1), 100);
        due("one up", x.shift(0, 2), 101);
        x.set(1, 1 | 1 << 25);
        due("jammed at both ends", x.shift(0, 2), -2);
    }

    static void p22_ofAsNearOnesTheLower() {
        LocksBySong x = hired(canal("mmmm1", times(4, "az0:0"), "00"), 0, 0, 3);
        int jammed = 0;
        for (int far = 0; far <= 12; far++) {
            due("lower", x.shift(0, 0), 100 - far);
            jammed |= 1 << 12 - far;
            x.set(1, jammed);
            due("upper", x.shift(0, 0), 100 + far + (far == 0 ? -1 : 0));
            jammed |= 1 << 12 + far;
            x.set(1, jammed);
        }
        due("the last one", x.shift(0, 0), 113);
        x.set(1, (1 << 26) - 1);
        due("with none", x.shift(0, 0), -2);
    }

    static void p22_withNone() {
        LocksBySong x = canal("mmmm1", times(4, "az0:0"), "00");
        due("no crew", x.shift(0, 0), -2);
        hired(x, 0, 0, 2);
        due("three", x.shift(0, 0), -2);
    }

    static void p23_noneSuch() {
        dueNoneSuchLock("voices", LocksBySong::voices);
    }

    static void p23_byNone() {
        LocksBySong x = canal("aaaa1", times(3, "az0:0") + ";" + times(4, "az1:0"), "00;00");
        due("three there", x.voices(0, 0), -2);
        dueSingers(x, "az0:0", 1);
        due("four there", x.voices(0, 0), 135);
        x.hire(1, 7);
        due("one in another crew", x.voices(0, 0), -2);
        due("with that one in its own", x.voices(1, 0), 7);
        due("without singers", canal("aaaa1", "", "00").voices(0, 0), -2);
    }

    static void p23_theLeastFeesThenTheFewestThenTheLeastBits() {
        LocksBySong x = canal("aazz1", "aa0:3;aa0:2;aa0:2;zz0:1;zz0:1;zz0:1;az0:0;az0:1", "00");
        due("the least fees", x.voices(0, 0), 8 + 16 + 64 + 128);
        dueRow(x, 3);
        LocksBySong y = hired(canal("aabb1", "aa0:0;ab0:0;aa0:5;bb0:5;ab0:10;ab0:10;bb0:5", "00"), 0, 0, 1);
        due("of two that cost 10 together the least bits", y.voices(0, 0), 4 + 8);
        dueRow(y, 10);
        LocksBySong z = hired(canal("aaaa1", times(8, "az0:9"), "00"), 0, 0, 2);
        due("the least bits", z.voices(0, 0), 8);
        dueRow(z, 9);
        z.sheet(2, 8, 9, -1);
        due("the cheapest", z.voices(0, 0), 128);
        dueRow(z, 2);
    }

    static void p23_noneAreHiredForNothing() {
        LocksBySong x = hired(canal("aaaa1", times(8, "az0:0"), "00"), 0, 0, 3);
        due("it sings", x.voices(0, 0), 0);
        dueRow(x, 0);
    }

    static void p23_allFeesWhateverThePurse() {
        LocksBySong x = canal("aaaa1", times(8, "az0:99"), "00");
        due("voices", x.voices(0, 0), 15);
        dueRow(x, 396);
        x.hire(0, 7);
        due("purse", x.barge(0, 2), 1);
        due("voices", x.voices(0, 0), 7);
        dueRow(x, 297);
    }

    // ---- promises 24 to 26

    private static void dueNoneSuchPlace(String call, OfTwoOf asked) {
        LocksBySong x = hired(full(), 3, 0, 7);
        dueFar(call, (a, b) -> asked.answer(x, a, b), 0, 4, 0, 9, -1);
        dueFar(call, (a, b) -> asked.answer(x, a, b), 3, 5, 8, 10, -1);
        due(call + "(3, 8) can be asked", asked.answer(x, 3, 8) >= 0, true);
        due(call + " without barges", asked.answer(canal("aaaa1", "az0:0", ""), 0, 0), -1);
        due(call + " of a new object", asked.answer(new LocksBySong(), 0, 0), -1);
    }

    static void p24_noneSuch() {
        dueNoneSuchPlace("journey", LocksBySong::journey);
    }

    static void p24_toWhereItIs() {
        LocksBySong x = canal("aaaa1", times(4, "az1:0"), "10;00");
        x.set(0, 0);
        due("without a crew, without water", x.journey(0, 1), 0);
        dueRow(x, 0, 0, 0);
    }

    static void p24_whyItCannot() {
        LocksBySong x = hired(canal("aaaa1;aaaa1;bbbb1", times(4, "aa0:0"), "00"), 0, 0, 3);
        due("they are tired at the second", x.journey(0, 3), -2);
        dueRow(x, 1, 1, 3);
        LocksBySong y = hired(canal("aaaa1;aaaa1;aaaa1", times(4, "az3:0"), "30"), 0, 0, 3);
        y.set(0, 2);
        due("water for two", y.journey(0, 0), -2);
        dueRow(y, 2, 0, 4);
        y.set(0, 0);
        due("water for none", y.journey(0, 0), -2);
        dueRow(y, 0, 2, 4);
        y.set(1, 1);
        due("the song comes ahead of the water", y.journey(0, 0), -2);
        dueRow(y, 0, 2, 3);
        y.set(1, 0);
        y.set(0, 3);
        due("water for three", y.journey(0, 0) > 0, true);
        dueRow(y, 3, 3, 12);
        due("nothing changes", y.count(4) + y.count(3) + y.count(8), 3);
    }

    static void p24_theLongestWay() {
        LocksBySong x = hired(full(), 0, 0, 3);
        dueRule(x, "99", 0);
        due("eight locks", x.journey(0, 8), 792);
        dueRow(x, 8, 0, 32);
        x.rest(600);
        due("now does not count", x.journey(0, 8), 792);
    }

    static void p24_noRestsOnTheWay() {
        LocksBySong x = hired(canal("cccc1;cccc1", times(4, "ac0:0"), "00"), 0, 0, 3);
        dueRule(x, "99", 0);
        due("99 minutes are no rest", x.journey(0, 2), -2);
        dueRow(x, 1, 1, 3);
    }

    static void p25_noneSuch() {
        dueNoneSuchPlace("hires", LocksBySong::hires);
    }

    static void p25_toWhereItIs() {
        LocksBySong x = canal("aaaa1", times(4, "az0:0"), "00");
        due("nobody", x.hires(0, 0), 0);
        dueRow(x, 0);
    }

    static void p25_whereItIsAndWhenTheBargeIsThere() {
        LocksBySong x = canal("aaaa1;aaaa1;aaaa1", times(4, "az1:1") + ";" + times(4, "az3:1"), "10;00;20;30");
        due("at its own place", x.hires(0, 2), 15);
        dueRow(x, 4);
        due("to the end, one hiring", x.hires(0, 3), 15);
        due("they come too late", x.hires(1, 3), -2);
        due("none on the way", x.hires(2, 3), -2);
        due("none on the way down", x.hires(2, 1), -2);
        due("those at the end of the way don't help", x.hires(2, 1), -2);
        due("the whole way down", x.hires(3, 0), 240);
        dueRow(x, 4);
    }

    static void p25_theLongestWay() {
        LocksBySong x = canal(times(7, "aaaa1") + ";zzzz1", times(4, "aa0:1") + ";" + times(4, "zz7:2"), "00");
        due("up to the last place", x.hires(0, 8), 255);
        dueRow(x, 12);
        due("one less", x.hires(0, 7), 15);
        LocksBySong y = canal("aaaa1;" + times(7, "zzzz1"), times(4, "aa1:1") + ";" + times(4, "zz8:2"), "80");
        due("down to the first place", y.hires(0, 0), 255);
        dueRow(y, 12);
        due("one less", y.hires(0, 1), 240);
    }

    static void p25_theLocksOfTheWayDown() {
        LocksBySong x = canal("aaaa1;bbbb1;cccc1;dddd1", times(4, "cc3:1") + ";" + times(4, "bb2:2"), "30;20");
        due("through lock 2", x.hires(0, 2), 15);
        dueRow(x, 4);
        due("through locks 2 and 1", x.hires(0, 1), 255);
        dueRow(x, 12);
        due("through lock 1", x.hires(1, 1), 240);
        dueRow(x, 8);
        due("through lock 0, too", x.hires(0, 0), -2);
        due("up through lock 3", x.hires(0, 4), -2);
    }

    static void p25_byNone() {
        due("without singers", canal("aaaa1", "", "00").hires(0, 1), -2);
        LocksBySong x = canal("aaaa1;bbbb1", times(8, "az0:0"), "00;00");
        x.set(1, 2);
        due("jammed at the second", x.hires(0, 2), -2);
        due("up to it", x.hires(0, 1), 15);
        x.set(1, 0);
        hired(x, 1, 0, 4);
        due("three are left", x.hires(0, 1), -2);
    }

    static void p25_waterAndPurseAreLeftAside() {
        LocksBySong x = canal("aaaa1;aaaa1", times(8, "az2:99"), "20");
        x.set(0, 0);
        due("down without water", x.hires(0, 0), 15);
        dueRow(x, 396);
    }

    static void p25_tiredAsItIsNow() {
        LocksBySong x = hired(canal("bbbb1;bbbb1;bbbb1", times(4, "ab0:0") + ";" + times(4, "ab1:7"), "00"), 0, 0, 3);
        due("nobody more", x.hires(0, 3), 0);
        dueRow(x, 0);
        x.pass(0, 1);
        due("they are tired now", x.hires(0, 3), 240);
        dueRow(x, 28);
    }

    static void p25_theFewestThenTheLeastBits() {
        LocksBySong x = hired(canal("aaaa1;bbbb1", times(3, "ab0:0") + ";aa0:1;bb0:1;ab0:2;bb1:1;ab0:2", "00"), 0, 0, 2);
        due("one for as much as two", x.hires(0, 2), 32);
        dueRow(x, 2);
        x.sheet(2, 7, 0, 0);
        due("the fewest", x.hires(0, 2), 32);
        dueRow(x, 0);
        due("the least bits", x.hires(0, 1), 8);
    }

    static void p26_noneSuch() {
        dueNoneSuchPlace("rested", LocksBySong::rested);
    }

    /** So many times tired by the first lock, four from a to j are to sing a note at the second. */
    private static void dueRest(int tired, char note, int want) {
        int place = 1 - tired % 2;
        String chord = repeat(4, String.valueOf(note));
        LocksBySong x = canal("aaaa1;" + chord + "1", times(4, "aj" + place + ":0"), place + "0");
        hired(x, 0, 0, 3);
        x.set(0, 999);
        for (int i = 0; i < tired; i++) {
            due("pass", x.pass(0, 1 - x.barge(0, 0)) > 0, true);
        }
        due("rest of " + tired + " for " + note, x.rested(0, 2), want);
        if (want >= 0) {
            x.rest(want);
            due("then it can", x.journey(0, 2) >= 0, true);
        }
    }

    static void p26_from0By10To90() {
        for (int tired = 0; tired <= 9; tired++) {
            for (int less = 0; less <= 9; less++) {
                dueRest(tired, (char) ('j' - less), Math.max(0, tired - less) * 10);
            }
            dueRest(tired, 'k', -2);
        }
    }

    static void p26_notBy90() {
        LocksBySong x = canal("aaaa1", times(4, "az0:0"), "00;00");
        due("without a crew", x.rested(0, 1), -2);
        due("to where it is", x.rested(0, 0), 0);
        dueRow(x, 0);
        hired(x, 0, 0, 3);
        x.pass(0, 1);
        x.set(0, 0);
        due("without water", x.rested(0, 0), -2);
        due("nothing changes", x.count(3), 2);
    }

    static void p26_theRowHasTheMinutesOfTheJourneyThen() {
        LocksBySong x = hired(canal("bbbb1;bbbb1", times(4, "ab0:0"), "00"), 0, 0, 3);
        dueRule(x, "m+1", 0);
        x.rest(4);
        due("now 4", x.pass(0, 1), 5);
        due("now 9, tired 1", x.rested(0, 2), 10);
        dueRow(x, 20);
        due("nothing changes", x.count(3), 9);
        due("tired", x.count(8), 4);
    }

    // ---- promises 27 and 28

    static void p27_theLeastWaterThenTheFewestFillings() {
        LocksBySong x = twoBarges("aaaa1");
        dueQueue(x, "dddu", 3);
        dueRow(x, 2, 0, 1, 3, 2);
        dueQueue(x, "uuud", 2);
        dueRow(x, 1, 0, 1, 3, 2);
        dueQueue(x, "dudu", 2);
        dueRow(x, 0, 1, 0, 3, 2);
        dueQueue(x, "uddd", 3);
        dueRow(x, 2, 0, 1, 2, 3);
        x.pass(0, 1);
        dueQueue(x, "dudu", 2);
        dueRow(x, 0, 0, 1, 2, 3);
        dueQueue(x, "uudd", 2);
        dueRow(x, 0, 2, 0, 3, 1);
        dueQueue(x, "uu", 2);
        dueRow(x, 2, 0, 1);
        dueQueue(x, "d", 1);
        dueRow(x, 0, 0);
    }

    static void p27_fourteenInTurn() {
        LocksBySong x = twoBarges("aaaa1");
        dueQueue(x, repeat(7, "d") + repeat(7, "u"), 7);
        dueRow(x, 0, 7, 0, 8, 1, 9, 2, 10, 3, 11, 4, 12, 5, 13, 6);
        dueQueue(x, repeat(14, "d"), 14);
        dueRow(x, 14, 0, 1, 2, 3, 4, 5, 6, 7, 8, 9, 10, 11, 12, 13);
        due("water and level stay", x.count(4) * 10 + x.count(6), 200);
    }

    /** Tries all orders, the least rows first, and keeps the first of the best; costs are water by 100 and fillings. */
    private static final class Orders {
        final String text;
        final long[] order;
        long[] best;
        int least = GREATEST;

        Orders(String text, int level) {
            this.text = text;
            order = new long[text.length()];
            go(0, 0, level, 0);
        }

        void go(int k, int gone, int level, int cost) {
            if (k == order.length && cost < least) {
                least = cost;
                best = order.clone();
            }
            for (int i = 0; i < order.length && cost < least; i++) {
                boolean first = (gone & 1 << i) == 0;
                for (int j = 0; j < i; j++) {
                    first &= text.charAt(j) != text.charAt(i) || (gone & 1 << j) != 0;
                }
                if (first) {
                    order[k] = i;
                    boolean up = text.charAt(i) == 'u';
                    int more = up ? 101 * level : 100 + 1 - level;
                    go(k + 1, gone | 1 << i, up ? 1 : 0, cost + more);
                }
            }
        }
    }

    private static void dueBestOrder(String text, int level) {
        LocksBySong x = twoBarges("aaaa1");
        if (level == 1) {
            x.pass(0, 1);
        }
        Orders all = new Orders(text, level);
        due("queue of " + text + " from " + level, write(x, text).queue(0), all.least / 100);
        long[] row = new long[text.length() + 1];
        row[0] = all.least % 100;
        System.arraycopy(all.best, 0, row, 1, text.length());
        dueRow(x, row);
    }

    static void p27_fourteenOfBothKinds() {
        for (int level = 0; level < 2; level++) {
            for (int ups = 0; ups <= 14; ups++) {
                dueBestOrder(repeat(ups, "u") + repeat(14 - ups, "d"), level);
                dueBestOrder(repeat(14 - ups, "d") + repeat(ups, "u"), level);
            }
            dueBestOrder(repeat(7, "ud"), level);
            dueBestOrder(repeat(7, "du"), level);
            dueBestOrder("uudduuuddudddu", level);
        }
    }

    static void p27_allQueuesOfUpToSix() {
        for (int level = 0; level < 2; level++) {
            for (int many = 1; many <= 6; many++) {
                for (int bits = 0; bits < 1 << many; bits++) {
                    StringBuilder text = new StringBuilder();
                    for (int i = 0; i < many; i++) {
                        text.append((bits >> i & 1) == 1 ? 'u' : 'd');
                    }
                    dueBestOrder(text.toString(), level);
                }
            }
        }
    }

    static void p27_itAsksForNoWater() {
        LocksBySong x = twoBarges("aaaa1");
        x.set(0, 0);
        dueQueue(x, "ddd", 3);
    }

    static void p28_none() {
        LocksBySong x = full();
        due("without crews", x.jams(), 0);
        dueRow(x, 0, 1);
        LocksBySong y = hired(canal("aaaa1", times(4, "aa0:0"), "00"), 0, 0, 3);
        y.set(1, 1);
        due("those that can't as it is don't count", y.jams(), 0);
        dueRow(y, 0, 1);
    }

    static void p28_theLowestAndTheHighestNotes() {
        LocksBySong x = hired(canal("yyyy1;zzzz1", times(4, "az1:0"), "10"), 0, 0, 3);
        due("both ways", x.jams(), 1);
        dueRow(x, 24, 25);
        LocksBySong y = hired(canal("aaaa1;zzzz1", times(4, "az1:0"), "10"), 0, 0, 3);
        due("both ways", y.jams(), 1);
        dueRow(y, 0, 25);
        LocksBySong z = hired(canal("zzzz1", times(4, "az0:0"), "00"), 0, 0, 3);
        due("one way", z.jams(), 1);
        dueRow(z, 0, 25);
        LocksBySong v = hired(canal("aaaa1", times(4, "az0:0"), "00"), 0, 0, 3);
        due("one way by the lowest", v.jams(), 1);
        dueRow(v, 0, 1);
    }

    static void p28_theMostBarges() {
        LocksBySong x = canal("cccc1;eeee1", times(4, "az0:0") + ";" + times(4, "az2:0"), "00;20;10");
        hired(x, 0, 0, 3);
        hired(x, 1, 4, 7);
        due("one up, one down", x.jams(), 2);
        dueRow(x, 2, 4);
        x.set(0, 0);
        due("without water one alone can", x.jams(), 1);
        dueRow(x, 0, 2);
        due("nothing changes", x.count(5), 0);
    }

    static void p28_neitherWayThen() {
        LocksBySong x = hired(canal("cdef1;ghij1", times(4, "az1:0"), "10"), 0, 0, 3);
        due("one note of each", x.jams(), 1);
        dueRow(x, 2, 6);
        LocksBySong y = hired(canal("cccc1;cccc1", times(4, "az1:0"), "10"), 0, 0, 3);
        due("one for both", y.jams(), 1);
        dueRow(y, 0, 2);
    }

    // ---- promises 29 to 33

    static void p29_refused() {
        LocksBySong x = usual();
        dueFar("heard", x::heard, 0, 26, 0, 2, -1);
        dueFar("heard", x::heard, 25, 27, 1, 3, -1);
        due("none", x.count(9), 0);
        due("the lowest note", x.heard(0, 0), 1);
        due("the highest note", x.heard(25, 1), 2);
    }

    static void p29_twelveAndNoThirteenth() {
        LocksBySong x = new LocksBySong();
        for (int i = 1; i <= 12; i++) {
            due("heard", x.heard(i, i % 2), i);
        }
        due("a thirteenth", x.heard(1, 1), -1);
        due("a thirteenth", x.heard(0, 0), -1);
        due("twelve", x.count(9), 12);
        due("forget", x.forget(), 12);
        due("one again", x.heard(1, 1), 1);
    }

    static void p29_aThirteenthIsNotHeard() {
        LocksBySong x = usual();
        for (int i = 0; i < 12; i++) {
            x.heard(3, 1);
        }
        x.heard(25, 1);
        x.heard(0, 0);
        due("who", x.who(), 3);
    }

    static void p30_forgetsAll() {
        LocksBySong x = usual();
        due("none", x.forget(), 0);
        x.heard(3, 1);
        x.heard(2, 0);
        due("who", x.who(), 0);
        due("two", x.forget(), 2);
        due("none", x.forget(), 0);
        due("all", x.who(), 15);
        due("count", x.count(9), 0);
    }

    static void p31_noneOrAll() {
        LocksBySong x = new LocksBySong();
        due("nobody", x.who(), 0);
        dueRow(x, 0);
        LocksBySong y = full();
        due("all", y.who(), 255);
        dueRow(y, 8);
        y.heard(25, 0);
        due("nobody", y.who(), 0);
        dueRow(y, 0);
    }

    static void p31_lowAndHighAreWithin() {
        LocksBySong x = canal("", "bd0:0", "");
        int[] want = {0, 1, 1, 1, 0};
        for (int note = 0; note < 5; note++) {
            x.heard(note, 1);
            due("heard " + note, x.who(), want[note]);
            x.forget();
            x.heard(note, 0);
            due("not heard " + note, x.who(), 1 - want[note]);
            x.forget();
        }
        LocksBySong y = canal("", "zz0:0;aa0:0;az0:0", "");
        y.heard(25, 1);
        due("the highest", y.who(), 5);
        y.heard(0, 0);
        due("not the lowest", y.who(), 1);
    }

    static void p31_tiredIsLeftAside() {
        LocksBySong x = hired(canal("aaaa1", times(4, "aa0:0"), "00"), 0, 0, 3);
        x.pass(0, 1);
        x.heard(0, 1);
        due("those who are tired", x.who(), 15);
        x.forget();
        due("listen", x.listen(), 0);
        dueRow(x, 4);
    }

    static void p31_newSingersAreJudgedToo() {
        LocksBySong x = canal("", "ab0:0", "");
        x.heard(2, 1);
        due("nobody", x.who(), 0);
        dueSingers(x, "cc0:0", 1);
        due("the new one", x.who(), 2);
        due("it is still heard", x.count(9), 1);
    }

    static void p32_none() {
        due("no singers", new LocksBySong().listen(), -2);
        LocksBySong x = usual();
        x.heard(25, 1);
        x.heard(25, 0);
        due("none fit", x.listen(), -2);
    }

    static void p32_theLowestOfEqualOnes() {
        LocksBySong x = canal("", "ay0:0;az0:0", "");
        due("only the highest parts them", x.listen(), 25);
        dueRow(x, 1);
        LocksBySong y = canal("", "bz0:0;az0:0", "");
        due("only the lowest parts them", y.listen(), 0);
        dueRow(y, 1);
        LocksBySong z = full();
        due("nothing parts them", z.listen(), 0);
        dueRow(z, 8);
        LocksBySong v = canal("", "cc0:0;cc0:0;cd0:0;dd0:0", "");
        due("c leaves three at the most, d two", v.listen(), 3);
        dueRow(v, 2);
    }

    static void p32_ofOne() {
        LocksBySong x = canal("", "mm0:0", "");
        due("any will do", x.listen(), 0);
        dueRow(x, 1);
    }

    static void p33_noneToFour() {
        String[] singers = {"", "aa0:0", "aa0:0;zz0:0", "aa0:0;bb0:0;cc0:0", "aa0:0;bb0:0;cc0:0;dd0:0", "aa0:0;bb0:0;cc0:0;dd0:0;ee0:0",
            "aa0:0;bb0:0;cc0:0;dd0:0;ee0:0;ff0:0"};
        int[] want = {0, 0, 1, 2, 3, 4, -2};
        int[] bits = {0, 0, 1, 3, 7, 15, 15};
        for (int i = 0; i < singers.length; i++) {
            LocksBySong x = canal("", singers[i], "");
            due("parts " + singers[i], x.parts(), want[i]);
            if (want[i] >= 0) {
                dueRow(x, bits[i]);
            }
        }
    }

    static void p33_eightByThreeOrFour() {
        LocksBySong x = canal("", "ab0:0;ac0:0;ad0:0;bd0:0;bb0:0;cd0:0;cc0:0;dd0:0", "");
        due("eight", x.parts(), 4);
        dueRow(x, 15);
        LocksBySong y = canal("", "aa0:0;ac0:0;ae0:0;cc0:0;ce0:0;ee0:0;gg0:0", "");
        due("seven by three", y.parts(), 3);
        dueRow(y, 1 | 1 << 2 | 1 << 4);
    }

    static void p33_alikeOnes() {
        LocksBySong x = full();
        due("all alike", x.parts(), -2);
        LocksBySong y = canal("", "aa0:0;bb0:0;aa0:0", "");
        due("two alike", y.parts(), -2);
        y.heard(0, 0);
        due("the other alone fits", y.parts(), 0);
        dueRow(y, 0);
    }

    static void p33_theLeastBits() {
        LocksBySong x = canal("", "ay0:0;az0:0", "");
        due("the highest note", x.parts(), 1);
        dueRow(x, 1 << 25);
        LocksBySong y = canal("", "cf0:0;cc0:0;ff0:0", "");
        due("three by two", y.parts(), 2);
        dueRow(y, 1 << 2 | 1 << 3);
    }

    // ---- promises 34 to 38

    static void p34_others() {
        LocksBySong x = new LocksBySong();
        dueFar("opens", x::opens, 1, 0, 0, 11, -1);
        dueFar("opens", x::opens, 4, 5, 10, 12, -1);
        due("numbers", x.count(11), 0);
    }

    static void p34_atTheBounds() {
        LocksBySong x = new LocksBySong();
        long[][] want = {{1, 0, 1, 1}, {4, 0, 1, 1}, {1, 10, 0, 1}, {4, 10, 0, 1}, {1, 1, 6561, 10000}, {1, 9, 1, 10000},
            {1, 5, 1, 16}, {2, 5, 31, 256}, {3, 5, 721, 4096}, {4, 5, 14911, 65536}, {1, 2, 256, 625}, {1, 4, 81, 625},
            {4, 9, 3999400039999L, 10000000000000000L}, {4, 1, 9860128670388159L, 10000000000000000L}};
        for (long[] w : want) {
            due("opens(" + w[0] + ", " + w[1] + ")", x.opens((int) w[0], (int) w[1]), 0);
            dueRow(x, w[2], w[3]);
        }
    }

    static void p35_others() {
        LocksBySong x = new LocksBySong();
        dueFar("tries", x::tries, 0, 11, 0, 101, -1);
        dueFar("tries", x::tries, 10, 12, 100, 102, -1);
    }

    static void p35_theFewest() {
        LocksBySong x = new LocksBySong();
        int[][] want = {{0, 0, 1}, {0, 100, 1}, {10, 0, 1}, {10, 1, -2}, {10, 100, -2}, {1, 65, 1}, {1, 66, 2}, {1, 88, 2}, {1, 89, 3},
            {1, 95, 3}, {1, 96, 4}, {1, 98, 4}, {1, 99, -2}, {1, 100, -2}, {5, 6, 1}, {5, 7, 2}, {5, 12, 2}, {5, 13, 3}, {5, 17, 3},
            {5, 18, 4}, {5, 22, 4}, {5, 23, -2}, {9, 0, 1}, {9, 1, -2}};
        for (int[] w : want) {
            due("tries(" + w[0] + ", " + w[1] + ")", x.tries(w[0], w[1]), w[2]);
        }
    }

    static void p36_anotherC() {
        LocksBySong x = new LocksBySong();
        for (int far : FAR) {
            due("rests(" + far + ")", x.rests(far), -1);
        }
        due("rests(10)", x.rests(10), -1);
        due("numbers", x.count(11), 0);
    }

    /** What the first gets, as the document says. */
    private static int gets(int own, int other, int c) {
        if (own == other) {
            return (own - c) / 2;
        }
        return own < other ? own - c : 0;
    }

    static void p36_from0To9() {
        for (int c = 0; c <= 9; c++) {
            int many = 0;
            List<Long> least = new ArrayList<>();
            for (int pair = 0; pair < 100; pair++) {
                int first = pair / 10;
                int second = pair % 10;
                boolean atRest = true;
                for (int other = 0; other < 10; other++) {
                    atRest &= gets(other, second, c) <= gets(first, second, c) && gets(other, first, c) <= gets(second, first, c);
                }
                if (atRest && many == 0) {
                    least.add((long) first);
                    least.add((long) second);
                }
                many += atRest ? 1 : 0;
            }
            LocksBySong x = new LocksBySong();
            due("rests(" + c + ")", x.rests(c), many);
            due("the least pair of " + c + " is " + least, row(x).equals(least), true);
        }
    }

    static void p37_noneSuch() {
        dueNoneSuchLock("pays", LocksBySong::pays);
    }

    static void p37_voicesIsNone() {
        LocksBySong x = canal("aaaa1", times(3, "az0:0"), "00");
        due("three", x.pays(0, 0), -2);
        due("without singers", canal("aaaa1", "", "00").pays(0, 0), -2);
    }

    static void p37_noDearerOrNoneWouldDo() {
        LocksBySong x = canal("aaaa1", times(8, "az0:9"), "00");
        due("as good others", x.pays(0, 0), 0);
        dueRow(x, 0, 0, 0, 0, 0, 0, 0, 0);
        x.sheet(2, 8, 0, 10);
        due("the first four by what the fifth costs", x.pays(0, 0), 40);
        dueRow(x, 40, 30, 20, 10, 0, 0, 0, 0);
        LocksBySong y = canal("abbb1", "aa0:7;bb0:1;bb0:2;bb0:3;bb0:5;bb1:0", "00");
        due("one who must", y.pays(0, 0), 9999);
        dueRow(y, 9999, 4, 3, 2, 0, 0);
        y.hire(0, 0);
        due("in the crew", y.pays(0, 0), 4);
        dueRow(y, 0, 4, 3, 2, 0, 0);
    }

    static void p38_anotherN() {
        LocksBySong x = hired(full(), 0, 0, 3);
        for (int n : new int[] {LEAST, -1, 0, 61, 62, GREATEST}) {
            due("days(1, " + n + ")", x.days(1, n), -1);
        }
        for (int n : new int[] {1, 2, 59, 60}) {
            due("days(1, " + n + ")", x.days(1, n) >= 0, true);
        }
    }

    static void p38_noBarges() {
        due("no barges", canal("aaaa1", times(4, "az0:0"), "").days(1, 1), -1);
        due("a new object", new LocksBySong().days(1, 60), -1);
    }

    static void p38_nothingChanges() {
        LocksBySong x = hired(full(), 0, 0, 3);
        x.days(77, 60);
        long[] want = {8, 8, 4, 0, 20, 0, 0, 240, 0, 0, 4, 2, 0};
        for (int what = 0; what < want.length; what++) {
            due("count(" + what + ")", x.count(what), want[what]);
        }
        due("place", x.barge(0, 0), 0);
    }

    /** The days drawn anew, and done by pass() and rest() on another object. */
    private static void dueDays(int seed, int n, int barges, int water) {
        LocksBySong x = canal("aaaa1;aaaa1;aaaa1", times(8, "aj0:0"), times(barges, "00"));
        LocksBySong y = canal("aaaa1;aaaa1;aaaa1", times(8, "aj0:0"), times(barges, "00"));
        for (LocksBySong z : new LocksBySong[] {x, y}) {
            hired(z, 0, 0, 3);
            hired(z, barges - 1, 4, 7);
            z.rest(7);
            z.set(0, water);
        }
        long r = seed & 0xffffffffL;
        int passed = 0;
        for (int i = 0; i < n; i++) {
            r = r * 1103515245L + 12345 & 0xffffffffL;
            int barge = (int) (r / 65536 % barges);
            r = r * 1103515245L + 12345 & 0xffffffffL;
            int act = (int) (r / 65536 % 3);
            if (act == 2) {
                y.rest(10);
            } else {
                passed += y.pass(barge, 1 - act) > 0 ? 1 : 0;
            }
        }
        due("days(" + seed + ", " + n + ") of " + barges, x.days(seed, n), passed);
        dueRow(x, y.count(3) - 7, y.count(4));
    }

    static void p38_drawnByAnySeed() {
        for (int seed : new int[] {LEAST, LEAST + 1, -65536, -1, 0, 1, 12345, 65535, 65536, GREATEST}) {
            for (int n : new int[] {1, 2, 3, 59, 60}) {
                for (int barges = 1; barges <= 4; barges++) {
                    dueDays(seed, n, barges, 20);
                    dueDays(seed, n, barges, 0);
                }
            }
        }
    }

    // ---- promises 39 to 42

    static void p39_numbers0To2() {
        LocksBySong x = new LocksBySong();
        for (int far : FAR) {
            due("keep(" + far + ")", x.keep(far), false);
        }
        due("keep(3)", x.keep(3), false);
        for (int i = 0; i < 3; i++) {
            due("keep(" + i + ")", x.keep(i), true);
            x.rest(1);
        }
        for (int i = 2; i >= 0; i--) {
            due("again(" + i + ")", x.again(i), true);
            due("now", x.count(3), i);
        }
        due("again(2)", x.again(2), true);
        due("now", x.count(3), 2);
    }

    static void p39_keptAnewUnderANumber() {
        LocksBySong x = new LocksBySong();
        x.keep(1);
        x.rest(5);
        x.keep(1);
        x.rest(5);
        due("again(1)", x.again(1), true);
        due("now", x.count(3), 5);
    }

    static void p40_nothingKept() {
        LocksBySong x = new LocksBySong();
        for (int i : new int[] {LEAST, -1, 0, 1, 2, 3, 31, 32, 33, GREATEST}) {
            due("again(" + i + ")", x.again(i), false);
        }
        x.keep(1);
        for (int i : new int[] {LEAST, -31, -1, 0, 2, 3, 33, 65, GREATEST}) {
            due("again(" + i + ")", x.again(i), false);
        }
        due("again(1)", x.again(1), true);
    }

    static void p40_newOnesCameSince() {
        String[][] texts = {{"aaaa1", "x", ""}, {"aa0:0", "aa", ""}, {"00", "0", ""}};
        for (int kind = 0; kind < 3; kind++) {
            for (int t = 0; t < 3; t++) {
                LocksBySong x = new LocksBySong();
                x.keep(0);
                x.keep(2);
                write(x, texts[kind][t]);
                int answer = kind == 0 ? x.locks() : kind == 1 ? x.singers() : x.barges();
                due("told " + texts[kind][t], answer > 0, t == 0);
                x.rest(3);
                due("again(0)", x.again(0), t != 0);
                due("again(2)", x.again(2), t != 0);
                due("now", x.count(3), t == 0 ? 3 : 0);
                due("keep(0)", x.keep(0), true);
                due("again(0)", x.again(0), true);
                due("again(2)", x.again(2), t != 0);
            }
        }
    }

    static void p40_allIsAsItWasKept() {
        LocksBySong x = hired(canal("aaaa1;aaaa1", times(5, "az0:9"), "00"), 0, 0, 3);
        x.pass(0, 1);
        x.leave(3);
        x.set(0, 17);
        x.keep(2);
        x.hire(0, 3);
        x.pass(0, 1);
        x.pass(0, 0);
        x.leave(0);
        x.rest(60);
        x.set(0, 3);
        due("again(2)", x.again(2), true);
        due("levels", x.count(6), 1);
        due("water", x.count(4), 17);
        due("now", x.count(3), 2);
        due("tired", x.count(8), 4);
        due("crew", x.barge(0, 3), 7);
        due("place of one who left", x.singer(3, 4), 1);
        due("place of one who never came", x.singer(4, 4), 0);
        due("place of the barge", x.barge(0, 0), 1);
        due("purse", x.barge(0, 2), 64);
        due("nothing to undo", x.count(10), 0);
    }

    static void p40_othersStay() {
        LocksBySong x = hired(usual(), 0, 0, 3);
        x.keep(0);
        x.set(1, 3);
        x.sheet(2, 4, 2, 0);
        x.heard(1, 1);
        dueRule(x, "42", 0);
        x.opens(1, 5);
        x.sign(0);
        due("again(0)", x.again(0), true);
        due("jammed", x.count(5), 3);
        dueFees(x, 2, 2, 2, 2);
        due("heard", x.count(9), 1);
        due("text", x.count(12), 4);
        dueRow(x, 1, 16);
        x.set(1, 0);
        due("the rule", x.journey(0, 1), 42);
    }

    static void p41_anotherWhat() {
        LocksBySong x = full();
        for (int what : new int[] {LEAST, -2, -1, 13, 14, 100, GREATEST}) {
            due("count(" + what + ")", x.count(what), -100);
        }
    }

    static void p41_allThatFits() {
        LocksBySong x = full();
        hired(x, 0, 0, 3);
        for (int i = 0; i < 8; i++) {
            x.pass(0, 1);
        }
        for (int i = 0; i < 20; i++) {
            x.rest(0);
        }
        for (int i = 0; i < 12; i++) {
            x.heard(0, 1);
        }
        x.set(0, 999);
        x.set(1, (1 << 26) - 1);
        write(x, repeat(14, "u")).queue(0);
        write(x, repeat(80, "z"));
        int[] want = {8, 8, 4, 72, 999, (1 << 26) - 1, 255, 240, 32, 12, 15, 15, 80};
        for (int what = 0; what < want.length; what++) {
            due("count(" + what + ")", x.count(what), want[what]);
        }
    }

    static void p42_noneSuch() {
        LocksBySong x = twoBarges("aaaa1");
        for (int many = 1; many <= 14; many++) {
            dueQueue(x, repeat(many, "u"), many - 1);
            due("numbers", x.count(11), many + 1);
            due("the last", x.row(many), many - 1);
            int behind = many + 1;
            dueNone("row(" + behind + ")", () -> x.row(behind));
            for (int far : FAR) {
                dueNone("row(" + far + ")", () -> x.row(far));
            }
        }
    }

    static void p42_anEmptyRow() {
        LocksBySong x = new LocksBySong();
        for (int i : new int[] {LEAST, -1, 0, 1, 15, 16, GREATEST}) {
            dueNone("row(" + i + ") of none", () -> x.row(i));
        }
        LocksBySong y = canal("aaaa1", "", "00");
        y.opens(1, 5);
        y.sings(0, 0);
        dueNone("row(0) behind sings() of 0", () -> y.row(0));
        dueNone("row(1) behind sings() of 0", () -> y.row(1));
    }

    static void p42_whatWasToldLast() {
        LocksBySong x = full();
        write(x, "uuu").queue(0);
        x.opens(1, 5);
        dueRow(x, 1, 16);
        x.who();
        dueRow(x, 8);
        dueNone("row(1)", () -> x.row(1));
    }
}
