import java.util.Arrays;

/** For each promise of the document what it says: ordinary calls, its edges, and wrong inputs. */
public final class LocksBySongTest extends Checks {
    public static void main(String[] args) {
        aNewObject();
        sign();
        end();
        locks();
        singers();
        barges();
        rule();
        lockSingerBarge();
        set();
        sheet();
        hire();
        leave();
        pass();
        rest();
        day();
        undo();
        sings();
        lacks();
        spoils();
        shift();
        voices();
        journey();
        hires();
        rested();
        queue();
        jams();
        heardForgetWho();
        listen();
        parts();
        opens();
        tries();
        rests();
        pays();
        days();
        keepAgain();
        count();
        row();
        refusedCallsTellNoRow();
        report("all promises hold");
    }

    // ---- promises 1 to 12

    private static void aNewObject() {
        about = "promise 1";
        LocksBySong x = new LocksBySong();
        int[] want = {0, 0, 0, 0, 20, 0, 0, 0, 0, 0, 0, 0, 0};
        for (int what = 0; what < want.length; what++) {
            due("count(" + what + ")", x.count(what), want[what]);
        }
        due("NONE", LocksBySong.NONE, -1);
    }

    private static void sign() {
        about = "promise 2";
        LocksBySong x = new LocksBySong();
        for (int i = 1; i <= 20; i++) {
            due("sign", x.sign(0x61616161), 4 * i);
        }
        due("sign beyond 80", x.sign(0x61616161), -1);
        due("signs", x.count(12), 80);
        x.end(77);
        due("sign to 81", x.sign(0), -1);
        due("signs", x.count(12), 77);
        x.end(76);
        due("sign to 80", x.sign(0), 80);
        x.end(0);
        x.sign(0x61626364);
        x.sign(0x35000000);
        x.end(5);
        due("locks", x.locks(), 1);
        for (int i = 0; i < 4; i++) {
            due("note " + i, x.lock(0, i), i);
        }
        x.sign(0xff616161);
        due("a sign of 255", x.locks(), -1);
    }

    private static void end() {
        about = "promise 3";
        LocksBySong x = new LocksBySong();
        due("end(0) of none", x.end(0), true);
        due("end(1) of none", x.end(1), false);
        x.sign(0x61626364);
        due("end(-1)", x.end(-1), false);
        due("end(5)", x.end(5), false);
        due("signs", x.count(12), 4);
        due("end(4)", x.end(4), true);
        due("end(2)", x.end(2), true);
        due("signs", x.count(12), 2);
        due("end(3)", x.end(3), false);
        due("end(int least)", x.end(Integer.MIN_VALUE), false);
    }

    private static void locks() {
        about = "promise 4";
        String[] texts = {"A", "a", "ab", "ba", "abc", "abcd", "abcd0", "abcda", "abcd5;", "abcd5,", "abcd55", ";", "abca5",
            "aaaa1;bbbb0", "aaaa1;", "aaaa1;;", "{aaa1", "`aaa1", "", "aaa{"};
        int[] wants = {-1, -2, -3, -2, -4, -5, -5, -5, -7, -6, -6, -1, -4, -11, -7, -7, -1, -1, 0, -4};
        LocksBySong x = new LocksBySong();
        for (int i = 0; i < texts.length; i++) {
            dueLocks(x, texts[i], wants[i]);
        }
        dueLocks(x, "azzz9", 1);
        due("held", x.lock(0, 4), 9);
        dueLocks(x, times(8, "aaaa1"), -43);
        dueLocks(x, times(7, "aaaa1") + ";", -43);
        dueLocks(x, times(7, "aaaa1"), 7);
        dueLocks(x, "", 0);
        dueLocks(x, "aaaa1", -1);
        LocksBySong y = new LocksBySong();
        dueLocks(y, times(8, "aaaa1") + ";", -48);
        dueLocks(y, times(8, "aaaa1") + "x", -48);
        dueLocks(y, times(9, "aaaa1"), -48);
        dueLocks(y, times(7, "aaaa1") + ";aaaa0;aaaa1", -47);
        dueLocks(y, times(8, "aaaa1"), 8);
    }

    private static void singers() {
        about = "promise 5";
        LocksBySong x = new LocksBySong();
        dueSingers(x, "ab1:1", -3);
        dueLocks(x, "acef3;bdgi2", 2);
        String[] texts = {"ba0:1", "ab3:1", "ab0:123", "ab0;1", "ab0:", "ab0:1;", "aB0:1", "1b0:1", "ab", "ab0", "ab0:a",
            "", "ab0:1;ba0:1", "ab0:1,", "abc:1"};
        int[] wants = {-2, -3, -7, -4, -5, -7, -2, -1, -3, -4, -5, 0, -8, -6, -3};
        for (int i = 0; i < texts.length; i++) {
            dueSingers(x, texts[i], wants[i]);
        }
        dueSingers(x, "zz2:00;ab1:7", 2);
        due("place", x.singer(0, 4), 2);
        due("fee", x.singer(1, 2), 7);
        due("tired", x.singer(1, 3), 0);
        due("barge", x.singer(1, 5), -1);
        dueSingers(x, times(7, "ab0:12"), -43);
        LocksBySong y = new LocksBySong();
        dueSingers(y, times(9, "ab0:12"), -57);
        dueSingers(y, times(8, "ab0:12") + ";xxxxxxxxxxxx", -57);
        dueSingers(y, times(8, "ab0:12") + "3", -56);
        dueSingers(y, times(8, "ab0:12"), 8);
        dueSingers(y, "ab0:1", -1);
    }

    private static void barges() {
        about = "promise 6";
        LocksBySong x = new LocksBySong();
        dueBarges(x, "10", -1);
        dueLocks(x, "acef3;bdgi2", 2);
        String[] texts = {"", "3", "0", "0a", "00;", "00;30", "000", "00;00;00;00;", "00;00;00;00;00", "00;00;00;0a;00", "a0"};
        int[] wants = {0, -1, -2, -2, -4, -4, -3, -12, -12, -11, -1};
        for (int i = 0; i < texts.length; i++) {
            dueBarges(x, texts[i], wants[i]);
        }
        dueBarges(x, "29", 1);
        due("place", x.barge(0, 0), 2);
        due("load", x.barge(0, 1), 9);
        due("purse", x.barge(0, 2), 100);
        dueBarges(x, "00;00;00;00", -10);
        dueBarges(x, "00;00;00", 3);
        dueBarges(x, "00", -1);
    }

    private static void rule() {
        about = "promise 7";
        String many = "1+1+1+1+1+1+1+1+1+1+1+1+1+1+1+1+1+1+1+1";
        String[] texts = {"", "n+", "+n", "1234", "(n", "n)", "((((n))))", "(((((n)))))", "1<2<3", "1<(2<3)", "(1<2)=1",
            "x", "n n", "--n", "n--n", "n**n", "()", "nn", "1n", "n1", "-", "(1=2=3)", "<1", "1<", "(1)(1)",
            "1" + many, "1" + many + "1", "1" + many + "(", "1*" + many, "1x" + many, many + "+", many + "++", many + "+("};
        int[] wants = {0, -3, -1, -4, -3, -2, 0, -5, -4, 0, 0, -1, -2, 0, 0, -3, -2, -2, -2, -2, -2, -5, -1, -3, -4,
            0, -41, -41, -41, -2, -41, -41, -41};
        for (int i = 0; i < texts.length; i++) {
            dueRule(new LocksBySong(), texts[i], wants[i]);
        }
        LocksBySong x = hired(usual(), 0, 0, 3);
        dueMinutes(x, "", 8);
        x.rest(121);
        String[] rules = {"n", "t+1", "l", "w+1", "u", "c", "m", "7-2-1", "2+3*4", "(2+3)*4", "7/2", "-7/2+9", "5/0+1", "9/(3-3)",
            "100", "-5", "(3-1<2+1)*9+1", "(3>2)*9+1", "(2=2)*9+1", "(2<2)*9+2", "--7", "2--3", "2*-3+9", "---3+9", "60/2/3",
            "999*999*999*3/999/999/99+50", "-(1-n)", "9-(-(-(1)))", "99", "2*3<7", "1-1", "8/3*3",
            "(2>2)*9+2", "(2>3)*9+2", "(2=3)*9+2"};
        int[] takes = {3, 1, 2, 1, 1, 4, 1, 4, 14, 20, 3, 6, 1, 1, 99, 1, 10, 10, 10, 2, 7, 5, 3, 6, 10, 37, 2, 8, 99, 1, 1, 6, 2, 2, 2};
        for (int i = 0; i < rules.length; i++) {
            dueMinutes(x, rules[i], takes[i]);
        }
        dueRule(x, "55+", -4);
        due("minutes by the rule as it was", x.journey(0, 1), 2);
        dueRule(x, "t*10+w*40+m", 0);
        due("the first", x.pass(0, 1), 1);
        due("tired 4, now 122", x.pass(0, 1), 42);
        dueRule(x, "w*40+u*7+t+2", 0);
        x.rest(10);
        due("down from a high lock", x.pass(0, 0), 2 + 4);
    }

    private static void lockSingerBarge() {
        LocksBySong x = usual();
        about = "promise 8";
        int[] lock = {1, 3, 6, 8, 2, 0};
        for (int what = 0; what < 6; what++) {
            due("lock(1, " + what + ")", x.lock(1, what), lock[what]);
        }
        dueNone("lock(2, 0)", () -> x.lock(2, 0));
        dueNone("lock(-1, 0)", () -> x.lock(-1, 0));
        dueNone("lock(0, 6)", () -> x.lock(0, 6));
        dueNone("lock(0, -1)", () -> x.lock(0, -1));
        about = "promise 9";
        int[] singer = {5, 25, 20, 0, 0, -1};
        for (int what = 0; what < 6; what++) {
            due("singer(3, " + what + ")", x.singer(3, what), singer[what]);
        }
        dueNone("singer(4, 0)", () -> x.singer(4, 0));
        dueNone("singer(-1, 0)", () -> x.singer(-1, 0));
        dueNone("singer(0, 6)", () -> x.singer(0, 6));
        dueNone("singer(0, -1)", () -> x.singer(0, -1));
        about = "promise 10";
        int[] barge = {0, 2, 100, 0};
        for (int what = 0; what < 4; what++) {
            due("barge(0, " + what + ")", x.barge(0, what), barge[what]);
        }
        dueNone("barge(1, 0)", () -> x.barge(1, 0));
        dueNone("barge(-1, 0)", () -> x.barge(-1, 0));
        dueNone("barge(0, 4)", () -> x.barge(0, 4));
        dueNone("barge(0, -1)", () -> x.barge(0, -1));
        hired(x, 0, 0, 3);
        x.pass(0, 1);
        due("level", x.lock(0, 5), 1);
        due("the place of its barge", x.singer(2, 4), 1);
        due("its barge", x.singer(2, 5), 0);
        due("tired", x.singer(2, 3), 1);
        due("purse", x.barge(0, 2), 59);
        due("crew", x.barge(0, 3), 15);
    }

    private static void set() {
        about = "promise 11";
        LocksBySong x = new LocksBySong();
        due("set(0, 999)", x.set(0, 999), 20);
        due("set(0, 1000)", x.set(0, 1000), -1);
        due("set(0, -1)", x.set(0, -1), -1);
        due("set(0, 0)", x.set(0, 0), 999);
        due("water", x.count(4), 0);
        due("set(1, all)", x.set(1, (1 << 26) - 1), 0);
        due("set(1, more)", x.set(1, 1 << 26), -1);
        due("set(1, -1)", x.set(1, -1), -1);
        due("jammed", x.count(5), (1 << 26) - 1);
        due("set(2, 0)", x.set(2, 0), -1);
        due("set(-1, 0)", x.set(-1, 0), -1);
    }

    private static void sheet() {
        about = "promise 12";
        LocksBySong x = usual();
        due("bytes", x.sheet(0, 4, 120, 5), 198);
        dueFees(x, 99, 99, 0, 0);
        due("shorts", x.sheet(1, 4, 32766, 1), 198);
        dueFees(x, 99, 99, 0, 0);
        due("shorts of small numbers", x.sheet(1, 2, 65536 + 7, 1), 15);
        dueFees(x, 7, 8, 0, 0);
        due("ints", x.sheet(2, 2, 50, -60), 50);
        dueFees(x, 50, 0, 0, 0);
        due("ints", x.sheet(2, 3, 10, 20), 90);
        dueFees(x, 10, 30, 50, 0);
        due("n below 0", x.sheet(2, -1, 1, 1), -2);
        due("n above 8", x.sheet(2, 9, 1, 1), -1);
        due("n above 8 of a missing one", x.sheet(3, 9, 1, 1), -1);
        due("another kind", x.sheet(4, 1, 1, 1), -1);
        due("another kind, n below 0", x.sheet(-1, -1, 1, 1), -1);
        dueFees(x, 10, 30, 50, 0);
        due("more than there are", x.sheet(2, 8, 1, 1), 10);
        dueFees(x, 1, 2, 3, 4);
        due("as ints", x.sheet(2, 2, Integer.MAX_VALUE, 1), 99);
        dueFees(x, 99, 0, 0, 0);
        due("missing, n below 0", x.sheet(3, -5, 1, 1), -3);
        dueFees(x, 0, 0, 0, 0);
        due("none", x.sheet(0, 0, 9, 9), 0);
    }

    // ---- promises 13 to 18

    private static void hire() {
        about = "promise 13";
        LocksBySong x = canal("aaaa1", "aa0:5;aa1:5;aa0:99;aa0:95", "00;10");
        due("no such barge", x.hire(2, 0), -1);
        due("no such barge", x.hire(-1, 0), -1);
        due("no such singer", x.hire(0, 4), -1);
        due("no such singer", x.hire(0, -1), -1);
        due("not there", x.hire(0, 1), -2);
        due("not there", x.hire(1, 0), -2);
        due("hired", x.hire(0, 0), 95);
        due("in its crew", x.hire(0, 0), -2);
        due("too dear", x.hire(0, 2), -3);
        due("as dear as the purse", x.hire(0, 3), 0);
        due("crew", x.barge(0, 3), 9);
        due("done", x.count(10), 2);
        due("the other barge", x.hire(1, 1), 95);
        due("not there, and too dear", x.hire(1, 2), -2);
    }

    private static void leave() {
        about = "promise 14";
        LocksBySong x = hired(usual(), 0, 0, 3);
        due("none such", x.leave(4), -1);
        due("none such", x.leave(-1), -1);
        x.pass(0, 1);
        due("leaves", x.leave(2), 0);
        due("place", x.singer(2, 4), 1);
        due("barge", x.singer(2, 5), -1);
        due("purse", x.barge(0, 2), 59);
        due("in no crew", x.leave(2), -2);
        due("free", x.count(7), 4);
        due("hired again", x.hire(0, 2), 50);
    }

    private static void pass() {
        about = "promise 15";
        LocksBySong x = twoBarges("aaaa1");
        dueRule(x, "w*10+u*5+1", 0);
        due("no such barge", x.pass(2, 1), -1);
        due("another up", x.pass(0, 2), -1);
        due("another up", x.pass(0, -1), -1);
        due("no lock there", x.pass(0, 0), -2);
        due("up a low lock", x.pass(0, 1), 6);
        dueRow(x, 0, 1, 2, 3);
        due("no lock there", x.pass(0, 1), -2);
        due("up a high lock", x.pass(1, 1), 16);
        dueRow(x, 4, 5, 6, 7);
        due("water", x.count(4), 19);
        due("down a high lock", x.pass(0, 0), 1);
        due("water", x.count(4), 18);
        due("level", x.count(6), 0);
        due("down a low lock", x.pass(1, 0), 11);
        due("water", x.count(4), 17);
        due("now", x.count(3), 34);
        due("tired", x.count(8), 16);
        x.set(0, 0);
        due("up without water", x.pass(0, 1), 6);
        due("no water to empty it", x.pass(1, 1), -4);
        due("no water to go down", x.pass(0, 0), -4);
        x.set(1, 1);
        due("jammed comes first", x.pass(0, 0), -3);
        due("place", x.barge(0, 0), 1);
        x.set(1, 0);
        x.set(0, 999);
        for (int i = 0; i < 12; i++) {
            due("there and back", x.pass(0, i % 2) > 0, true);
        }
        due("tired, 9 at most", x.singer(0, 3), 9);
        LocksBySong y = hired(canal("aabz1", "az0:0;ab0:0;aa0:0;az0:0;aa0:0", "00"), 0, 0, 4);
        due("the least row", y.pass(0, 1) > 0, true);
        dueRow(y, 0, 2, 1, 3);
        due("who did not sing", y.singer(4, 3), 0);
        due("one who is tired sings less high", y.pass(0, 0), -3);
    }

    private static void rest() {
        about = "promise 16";
        LocksBySong x = hired(canal("aaaa9", "az0:0;az0:0;az0:0;az0:0;az0:0", "00"), 0, 0, 3);
        due("600", x.rest(600), 600);
        due("601", x.rest(601), -1);
        due("-1", x.rest(-1), -1);
        dueRule(x, "5", 0);
        for (int i = 0; i < 5; i++) {
            x.pass(0, 1 - i % 2);
        }
        due("nobody rests by passing", x.count(8), 20);
        due("now", x.count(3), 625);
        due("to 629", x.rest(4), 629);
        due("tired", x.count(8), 20);
        due("to 630", x.rest(1), 630);
        due("tired", x.count(8), 16);
        due("0", x.rest(0), 630);
        due("tired", x.count(8), 16);
        due("to 650", x.rest(20), 650);
        due("tired", x.count(8), 8);
        due("long", x.rest(100), 750);
        due("tired, 0 at least", x.count(8), 0);
    }

    private static void day() {
        about = "promise 17";
        LocksBySong x = usual();
        dueDay(x, "", 0);
        dueRow(x, 0, 0);
        due("nothing to undo", x.count(10), 0);
        String[] texts = {"x", "h", "h0", "h0a", "h00;", "l", "la", "u", "ux", "d", "r", "r1234", "ra", ";", "u0,", "h000", "l00",
            "h00;h01;x", "H00", times(20, "r0") + ";", times(21, "r0"), times(20, "r0") + "1;", times(20, "r0") + "0x", "r12;r34;r0;x"};
        int[] wants = {-1, -2, -3, -3, -5, -2, -2, -2, -2, -2, -2, -5, -2, -1, -3, -4, -3, -9, -1, -61, -61, -61, -61, -12};
        for (int i = 0; i < texts.length; i++) {
            dueDay(x, texts[i], wants[i]);
        }
        due("nothing is done then", x.count(7), 15);
        due("nothing is done then", x.count(3), 0);
        dueDay(x, "u0;r10", 0);
        dueRow(x, 1, 0);
        due("nothing to undo", x.count(10), 0);
        dueDay(x, "h00;h01;h02;h03;u0;u0;u0;r5", 6);
        dueRow(x, 1, 2);
        due("as one", x.count(10), 1);
        due("now", x.count(3), 16);
        dueDay(x, "r10;d0;l3;r000", 4);
        dueRow(x, 0, 1);
        due("now", x.count(3), 34);
        due("left", x.singer(3, 4), 1);
        dueDay(x, "r601", 0);
        dueRow(x, 1, 0);
        dueDay(x, "h93", 0);
        due("undone as one", x.undo(), 1);
        due("now", x.count(3), 16);
        due("undone as one", x.undo(), 0);
        due("now", x.count(3), 0);
        due("purse", x.barge(0, 2), 100);
        dueDay(x, times(20, "r1"), 20);
        due("now", x.count(3), 20);
    }

    private static void undo() {
        about = "promise 18";
        LocksBySong x = usual();
        due("none", x.undo(), -1);
        for (int i = 1; i <= 16; i++) {
            x.rest(1);
            due("what can be undone", x.count(10), Math.min(15, i));
        }
        for (int i = 14; i >= 0; i--) {
            due("undo", x.undo(), i);
        }
        due("now", x.count(3), 1);
        due("none", x.undo(), -1);
        hired(x, 0, 0, 3);
        x.set(0, 7);
        x.pass(0, 1);
        x.set(0, 9);
        x.sheet(2, 4, 3, 0);
        x.set(1, 5);
        due("undo pass", x.undo(), 4);
        due("water is as ahead of it", x.count(4), 7);
        due("fees stay", x.singer(0, 2), 3);
        due("jammed stays", x.count(5), 5);
        due("level", x.count(6), 0);
        due("tired", x.count(8), 0);
        due("place", x.barge(0, 0), 0);
        due("now", x.count(3), 1);
        due("refused ones can't be undone", x.pass(0, 0), -2);
        due("undo hire", x.undo(), 3);
        due("water", x.count(4), 20);
        due("purse", x.barge(0, 2), 79);
        due("crew", x.barge(0, 3), 7);
        x.leave(1);
        due("undo leave", x.undo(), 3);
        due("crew", x.barge(0, 3), 7);
        write(x, "").locks();
        write(x, "x").singers();
        x.again(0);
        due("empty and refused ones forget nothing", x.count(10), 3);
        write(x, "00").barges();
        due("new barges forget", x.count(10), 0);
        x.rest(1);
        write(x, "aa0:0").singers();
        due("new singers forget", x.count(10), 0);
        x.rest(0);
        due("rest(0) is done", x.count(10), 1);
        write(x, "aaaa1").locks();
        due("new locks forget", x.count(10), 0);
        x.keep(0);
        x.rest(1);
        x.again(0);
        due("again forgets", x.undo(), -1);
    }

    // ---- promises 19 to 28

    private static void sings() {
        about = "promise 19";
        LocksBySong x = usual();
        due("nobody", x.sings(0, 0), 0);
        dueRow(x);
        hired(x, 0, 0, 3);
        due("lock 1 from afar", x.sings(0, 1), 1);
        dueRow(x, 0, 1, 2, 3);
        x.set(1, 1 << 8);
        due("jammed", x.sings(0, 1), 0);
        dueRow(x);
        due("not jammed", x.sings(0, 0), 1);
        due("no such barge", x.sings(1, 0), -1);
        due("no such barge", x.sings(-1, 0), -1);
        due("no such lock", x.sings(0, 2), -1);
        due("no such lock", x.sings(0, -1), -1);
        dueRow(x, 0, 1, 2, 3);
        LocksBySong y = hired(canal("aaaz1", "az0:0;az0:0;aa0:0;aa0:0;aa0:0", "00"), 0, 1, 4);
        due("the row", y.sings(0, 0), 1);
        dueRow(y, 2, 3, 4, 1);
        y.hire(0, 0);
        due("the least row", y.sings(0, 0), 1);
        dueRow(y, 0, 2, 3, 1);
    }

    private static void lacks() {
        about = "promise 20";
        LocksBySong x = usual();
        due("nobody", x.lacks(0, 0), 0);
        dueRow(x, 0);
        hired(x, 0, 1, 3);
        due("three", x.lacks(0, 0), 3);
        dueRow(x, 14);
        x.set(1, 1 << 2);
        due("jammed", x.lacks(0, 0), 2);
        dueRow(x, 12);
        due("no such barge", x.lacks(1, 0), -1);
        due("no such lock", x.lacks(0, 2), -1);
        LocksBySong y = hired(canal("abcd1", "ad0:0;bc0:0", "00"), 0, 0, 1);
        due("of as many the least", y.lacks(0, 0), 2);
        dueRow(y, 3);
        LocksBySong z = hired(canal("aaaa1", times(8, "az0:0"), "00"), 0, 0, 7);
        due("all", z.lacks(0, 0), 4);
        dueRow(z, 15);
    }

    private static void spoils() {
        about = "promise 21";
        LocksBySong x = hired(canal("aaaz1", "aa0:0;az0:0;az0:0;az0:0;aa0:0;aa0:0", "00"), 0, 0, 5);
        due("three", x.spoils(0, 0), 3);
        dueRow(x, 7);
        x.leave(0);
        due("two of five", x.spoils(0, 0), 2);
        dueRow(x, 6);
        x.leave(5);
        due("one of four", x.spoils(0, 0), 1);
        dueRow(x, 2);
        x.leave(4);
        due("it does not as it is", x.spoils(0, 0), 0);
        dueRow(x, 0);
        due("no such barge", x.spoils(1, 0), -1);
        due("no such lock", x.spoils(0, 1), -1);
        LocksBySong y = hired(canal("aaaz1", "aa0:0;aa0:0;aa0:0;aa0:0;az0:0", "00"), 0, 0, 4);
        due("the one who sings z", y.spoils(0, 0), 1);
        dueRow(y, 16);
    }

    private static void shift() {
        about = "promise 22";
        LocksBySong x = hired(canal("ffff1;aaaz1;cccc1", times(4, "dd0:0") + ";" + times(4, "hh0:0"), "00"), 0, 0, 7);
        due("two down, two up: the lower", x.shift(0, 0), 98);
        dueRow(x, 0, 1, 2, 3);
        due("can't stay within", x.shift(0, 1), -2);
        due("up", x.shift(0, 2), 101);
        x.set(1, 1 << 3);
        due("jammed where it goes", x.shift(0, 0), 102);
        dueRow(x, 4, 5, 6, 7);
        due("up", x.shift(0, 2), 105);
        due("no such barge", x.shift(1, 0), -1);
        due("no such lock", x.shift(0, 3), -1);
        LocksBySong y = hired(canal("zzzz1;aaaa1", times(4, "aa0:0") + ";" + times(4, "zz0:0"), "00"), 0, 0, 3);
        due("as far down as can be", y.shift(0, 0), 75);
        due("none at all", y.shift(0, 1), 100);
        for (int s = 0; s < 4; s++) {
            y.leave(s);
        }
        hired(y, 0, 4, 7);
        due("as far up as can be", y.shift(0, 1), 125);
    }

    private static void voices() {
        about = "promise 23";
        LocksBySong x = canal("aaaa1", "aa0:1;aa0:1;aa0:1;aa0:1;aa0:0;aa1:0;aa0:2", "00;10");
        due("the cheapest, then the least bits", x.voices(0, 0), 23);
        dueRow(x, 3);
        x.sheet(3, 0, 0, 0);
        due("the fewest", x.voices(0, 0), 15);
        dueRow(x, 0);
        due("none at its place", x.voices(1, 0), -2);
        x.hire(0, 6);
        due("with its crew", x.voices(0, 0), 7);
        hired(x, 0, 0, 2);
        due("none are needed", x.voices(0, 0), 0);
        dueRow(x, 0);
        x.set(1, 1);
        due("jammed", x.voices(0, 0), -2);
        due("no such barge", x.voices(2, 0), -1);
        due("no such lock", x.voices(0, 1), -1);
        LocksBySong y = canal("abcd1", "aa0:99;bb0:99;cc0:99;dd0:99", "00");
        due("purse left aside", y.voices(0, 0), 15);
        dueRow(y, 396);
    }

    private static void journey() {
        about = "promise 24";
        LocksBySong x = hired(usual(), 0, 0, 3);
        due("to where it is", x.journey(0, 0), 0);
        dueRow(x, 0, 0, 0);
        due("up", x.journey(0, 2), 16);
        dueRow(x, 2, 0, 8);
        due("nothing changes", x.count(3) + x.count(6) + x.count(8), 0);
        x.pass(0, 1);
        x.pass(0, 1);
        due("too tired", x.journey(0, 0), -2);
        dueRow(x, 0, 1, 3);
        x.rest(10);
        due("down", x.journey(0, 0), 20);
        dueRow(x, 2, 2, 12);
        x.set(0, 1);
        due("water for one", x.journey(0, 0), -2);
        dueRow(x, 1, 0, 4);
        due("no such barge", x.journey(1, 0), -1);
        due("no such place", x.journey(0, 3), -1);
        due("no such place", x.journey(0, -1), -1);
        dueRow(x, 1, 0, 4);
        LocksBySong y = twoBarges("aaaa1;aaaa1;aaaa1");
        dueRule(y, "m+1", 0);
        due("the minutes go by on the way", y.journey(0, 3), 7);
        y.pass(1, 1);
        due("a lock must be emptied", y.journey(0, 3), 14);
        dueRow(y, 3, 1, 12);
        dueRule(y, "", 0);
        due("the rule that there is at first, with a lock to be emptied", y.journey(0, 1), 5);
        LocksBySong z = canal(times(8, "aaaa1"), times(4, "az0:0"), "00");
        due("the longest way needs a crew", z.journey(0, 8), -2);
        dueRow(z, 0, 0, 3);
        due("hires for the longest way", z.hires(0, 8), 15);
        hired(z, 0, 0, 3);
        due("the longest way", z.journey(0, 8), 72);
        dueRow(z, 8, 0, 32);
    }

    private static void hires() {
        about = "promise 25";
        LocksBySong x = canal("aaaa1;zzzz1", times(4, "ac0:1") + ";" + times(4, "zz1:2"), "00;20");
        due("up", x.hires(0, 2), 255);
        dueRow(x, 12);
        due("half way", x.hires(0, 1), 15);
        dueRow(x, 4);
        due("nowhere", x.hires(0, 0), 0);
        dueRow(x, 0);
        due("none where it starts", x.hires(1, 0), -2);
        hired(x, 0, 0, 3);
        due("with its crew", x.hires(0, 2), 240);
        dueRow(x, 8);
        x.set(0, 0);
        x.pass(0, 1);
        due("down, water left aside", x.hires(0, 0), 0);
        x.set(1, 1);
        due("jammed", x.hires(0, 0), -2);
        due("no such barge", x.hires(2, 0), -1);
        due("no such place", x.hires(0, 3), -1);
        LocksBySong y = canal("aaaa1;zzzz1", times(4, "aa0:1") + ";" + times(3, "zz1:2") + ";zz2:2", "00");
        due("one comes too late", y.hires(0, 2), -2);
        LocksBySong z = canal("aaaa1;aaaa1", times(4, "aa0:1") + ";" + times(4, "aa1:0"), "10;00");
        due("where it is, the cheaper", z.hires(0, 0), 240);
        dueRow(z, 0);
        due("nobody becomes tired: the first four do", z.hires(1, 2), 15);
        dueRow(z, 4);
        LocksBySong v = hired(canal("aaaa1;bbbb1", times(3, "ab0:0") + ";aa0:1;bb0:1;ab0:9", "00"), 0, 0, 2);
        due("two are cheaper than one", v.hires(0, 2), 24);
        dueRow(v, 2);
        v.sheet(2, 6, -2, 1);
        due("as cheap: the fewest", v.hires(0, 1), 8);
        due("fee", v.singer(4, 2), 2);
        due("one as cheap as two", v.hires(0, 2), 32);
        dueRow(v, 3);
    }

    private static void rested() {
        about = "promise 26";
        LocksBySong x = hired(usual(), 0, 0, 3);
        due("no rest", x.rested(0, 2), 0);
        dueRow(x, 16);
        x.pass(0, 1);
        x.pass(0, 1);
        due("a rest", x.rested(0, 0), 10);
        dueRow(x, 20);
        due("nothing changes", x.count(3), 16);
        due("where it is", x.rested(0, 2), 0);
        dueRow(x, 0);
        x.set(0, 1);
        due("no rest brings water", x.rested(0, 0), -2);
        due("no such barge", x.rested(1, 0), -1);
        due("no such place", x.rested(0, 3), -1);
        LocksBySong y = hired(canal("jjjj1;kkkk1", times(4, "ak0:0"), "00"), 0, 0, 3);
        dueRule(y, "m+1", 0);
        y.pass(0, 1);
        due("tired", y.rested(0, 2), 10);
        dueRow(y, 12);
        LocksBySong z = hired(canal("aaaa1;jjjj1", times(4, "aj0:0"), "00"), 0, 0, 3);
        for (int i = 0; i < 9; i++) {
            z.pass(0, 1 - i % 2);
        }
        due("nine times tired", z.rested(0, 2), 90);
        z.pass(0, 0);
        due("not by 90: the first lock tires", z.rested(0, 2), -2);
    }

    private static void queue() {
        about = "promise 27";
        LocksBySong x = twoBarges("aaaa1");
        dueQueue(x, "u", 0);
        dueRow(x, 0, 0);
        dueQueue(x, "d", 1);
        dueRow(x, 1, 0);
        dueQueue(x, "du", 1);
        dueRow(x, 0, 1, 0);
        dueQueue(x, "uu", 1);
        dueRow(x, 1, 0, 1);
        dueQueue(x, "uudd", 2);
        dueRow(x, 0, 0, 2, 1, 3);
        dueQueue(x, "ddu", 2);
        dueRow(x, 1, 0, 2, 1);
        dueQueue(x, "", -2);
        dueQueue(x, "x", -2);
        dueQueue(x, "ux", -3);
        dueQueue(x, "uuuuuuuuuuuuuuu", -16);
        dueQueue(x, "uuuuuuuuuuuuuux", -16);
        dueQueue(x, "uuuuuuuuuuuuuu", 13);
        dueRow(x, 13, 0, 1, 2, 3, 4, 5, 6, 7, 8, 9, 10, 11, 12, 13);
        write(x, "u");
        due("no such lock", x.queue(1), -1);
        due("it is read", x.count(12), 0);
        write(x, "");
        due("no such lock comes first", x.queue(-1), -1);
        x.pass(0, 1);
        dueQueue(x, "u", 1);
        dueRow(x, 1, 0);
        dueQueue(x, "ud", 1);
        dueRow(x, 0, 1, 0);
    }

    private static void jams() {
        about = "promise 28";
        LocksBySong x = new LocksBySong();
        due("no barges", x.jams(), 0);
        dueRow(x, 0, 1);
        LocksBySong y = hired(canal("cccc1;eeee1", times(4, "az1:0"), "10"), 0, 0, 3);
        due("both ways", y.jams(), 1);
        dueRow(y, 2, 4);
        y.set(0, 0);
        due("up alone", y.jams(), 1);
        dueRow(y, 0, 4);
        y.set(1, 1 << 4);
        due("it can't go as it is", y.jams(), 0);
        dueRow(y, 0, 1);
        LocksBySong z = twoBarges("ghij1");
        due("both", z.jams(), 2);
        dueRow(z, 0, 6);
    }

    // ---- promises 29 to 33

    private static void heardForgetWho() {
        about = "promise 29";
        LocksBySong x = usual();
        due("note 26", x.heard(26, 1), -1);
        due("note -1", x.heard(-1, 1), -1);
        due("is 2", x.heard(0, 2), -1);
        due("is -1", x.heard(0, -1), -1);
        due("heard", x.heard(2, 1), 1);
        about = "promise 31";
        due("who", x.who(), 3);
        dueRow(x, 2);
        due("not heard", x.heard(4, 0), 2);
        due("who", x.who(), 1);
        dueRow(x, 1);
        due("heard", x.heard(25, 1), 3);
        due("nobody", x.who(), 0);
        dueRow(x, 0);
        about = "promise 29";
        for (int i = 4; i <= 12; i++) {
            due("heard", x.heard(2, 1), i);
        }
        due("a thirteenth", x.heard(2, 1), -1);
        due("how many", x.count(9), 12);
        about = "promise 30";
        due("forget", x.forget(), 12);
        due("forget", x.forget(), 0);
        due("how many", x.count(9), 0);
        about = "promise 31";
        due("all", x.who(), 15);
        dueRow(x, 4);
        hired(x, 0, 0, 3);
        x.pass(0, 1);
        x.set(1, 1 << 3);
        x.heard(3, 1);
        due("tired left aside", x.who(), 3);
        x.heard(3, 0);
        due("heard and not heard", x.who(), 0);
    }

    private static void listen() {
        about = "promise 32";
        LocksBySong x = new LocksBySong();
        due("none", x.listen(), -2);
        LocksBySong y = usual();
        due("half of them", y.listen(), 2);
        dueRow(y, 2);
        y.heard(2, 1);
        due("one of two", y.listen(), 0);
        dueRow(y, 1);
        y.heard(0, 1);
        due("of one", y.listen(), 0);
        dueRow(y, 1);
        y.heard(0, 0);
        due("none are left", y.listen(), -2);
    }

    private static void parts() {
        about = "promise 33";
        LocksBySong x = usual();
        due("four by two", x.parts(), 2);
        dueRow(x, 20);
        x.heard(2, 1);
        due("two by one", x.parts(), 1);
        dueRow(x, 1);
        x.heard(0, 1);
        due("one by none", x.parts(), 0);
        dueRow(x, 0);
        x.heard(0, 0);
        due("nobody", x.parts(), 0);
        dueRow(x, 0);
        LocksBySong y = canal("aaaa1", "ab0:0;cd0:0;ab0:0", "00");
        due("two alike", y.parts(), -2);
        y.heard(2, 1);
        due("those who fit", y.parts(), 0);
        LocksBySong z = canal("aaaa1", "aa0:0;bb0:0;cc0:0;dd0:0;ee0:0", "00");
        due("five by four", z.parts(), 4);
        dueRow(z, 15);
        write(z, "ff0:0").singers();
        due("six by five", z.parts(), -2);
    }

    // ---- promises 34 to 38

    private static void opens() {
        about = "promise 34";
        LocksBySong x = new LocksBySong();
        int[][] bad = {{0, 1}, {5, 1}, {1, -1}, {1, 11}, {-1, 0}};
        for (int[] b : bad) {
            due("opens", x.opens(b[0], b[1]), -1);
        }
        due("never", x.opens(4, 10), 0);
        dueRow(x, 0, 1);
        due("always", x.opens(4, 0), 0);
        dueRow(x, 1, 1);
        due("half", x.opens(2, 5), 0);
        dueRow(x, 31, 256);
        due("nine tenths", x.opens(1, 9), 0);
        dueRow(x, 1, 10000);
        due("nine tenths, twice", x.opens(2, 9), 0);
        dueRow(x, 19999, 100000000);
        due("nine tenths, four times", x.opens(4, 9), 0);
        dueRow(x, 3999400039999L, 10000000000000000L);
    }

    private static void tries() {
        about = "promise 35";
        LocksBySong x = new LocksBySong();
        int[][] asked = {{5, 6}, {5, 7}, {5, 20}, {5, 50}, {0, 100}, {10, 0}, {10, 1}, {11, 5}, {-1, 5}, {5, 101}, {5, -1}, {5, 13}};
        int[] wants = {1, 2, 4, -2, 1, 1, -2, -1, -1, -1, -1, 3};
        for (int i = 0; i < asked.length; i++) {
            due("tries " + Arrays.toString(asked[i]), x.tries(asked[i][0], asked[i][1]), wants[i]);
        }
    }

    private static void rests() {
        about = "promise 36";
        LocksBySong x = new LocksBySong();
        due("rests(0)", x.rests(0), 7);
        dueRow(x, 0, 0);
        due("rests(9)", x.rests(9), 2);
        dueRow(x, 8, 8);
        due("rests(10)", x.rests(10), -1);
        due("rests(-1)", x.rests(-1), -1);
        dueRow(x, 8, 8);
    }

    private static void pays() {
        about = "promise 37";
        LocksBySong x = canal("aaaa1", "aa0:1;aa0:2;aa0:3;aa0:4;aa0:9;aa1:0", "00;10");
        due("each by how much", x.pays(0, 0), 8);
        dueRow(x, 8, 7, 6, 5, 0, 0);
        due("voices is -2", x.pays(1, 0), -2);
        x.hire(0, 4);
        due("with one in its crew", x.pays(0, 0), 3);
        dueRow(x, 3, 2, 1, 0, 0, 0);
        x.hire(0, 3);
        x.hire(0, 2);
        due("one of two", x.pays(0, 0), 1);
        dueRow(x, 1, 0, 0, 0, 0, 0);
        x.leave(2);
        x.hire(0, 1);
        x.hire(0, 0);
        due("none are needed", x.pays(0, 0), 0);
        dueRow(x, 0, 0, 0, 0, 0, 0);
        due("no such barge", x.pays(2, 0), -1);
        due("no such lock", x.pays(0, 1), -1);
        LocksBySong y = canal("aaaa1", "aa0:1;aa0:2;aa0:3;aa0:4", "00");
        due("none would do", y.pays(0, 0), 9999);
        dueRow(y, 9999, 9999, 9999, 9999);
    }

    private static void days() {
        about = "promise 38";
        LocksBySong x = hired(canal("aaaa1", times(4, "az0:0"), "00"), 0, 0, 3);
        dueRule(x, "5", 0);
        // By the seed 1 the first three acts are up, up (it can't), down.
        due("one", x.days(1, 1), 1);
        dueRow(x, 5, 20);
        due("two", x.days(1, 2), 1);
        dueRow(x, 5, 20);
        due("three", x.days(1, 3), 2);
        dueRow(x, 10, 19);
        due("nothing changes", x.count(3) + x.count(6) + x.count(8), 0);
        due("a rest", x.days(restingSeed(), 1), 0);
        dueRow(x, 10, 20);
        due("none", x.days(1, 0), -1);
        due("61", x.days(1, 61), -1);
        due("60", x.days(-7, 60) > 0, true);
        LocksBySong y = canal("aaaa1", times(4, "az0:0"), "");
        due("no barges", y.days(1, 1), -1);
    }

    /** A seed whose first act is that 10 minutes go by, drawn as the document says. */
    private static int restingSeed() {
        for (int seed = 0; seed < 100; seed++) {
            int r = seed * 1103515245 + 12345;
            r = r * 1103515245 + 12345;
            if ((r & 0xffffffffL) / 65536 % 3 == 2) {
                return seed;
            }
        }
        throw new AssertionError();
    }

    // ---- promises 39 to 42

    private static void keepAgain() {
        about = "promise 39";
        LocksBySong x = hired(usual(), 0, 0, 2);
        due("keep(3)", x.keep(3), false);
        due("keep(-1)", x.keep(-1), false);
        due("keep(0)", x.keep(0), true);
        x.hire(0, 3);
        x.pass(0, 1);
        x.set(0, 3);
        x.set(1, 7);
        x.sheet(2, 1, 9, 0);
        due("keep(2)", x.keep(2), true);
        about = "promise 40";
        due("again(1)", x.again(1), false);
        due("again(3)", x.again(3), false);
        due("again(-1)", x.again(-1), false);
        due("what can be undone", x.count(10), 5);
        due("again(0)", x.again(0), true);
        due("what can be undone", x.count(10), 0);
        due("water", x.count(4), 20);
        due("now", x.count(3), 0);
        due("levels", x.count(6), 0);
        due("tired", x.count(8), 0);
        due("purse", x.barge(0, 2), 79);
        due("crew", x.barge(0, 3), 7);
        due("jammed", x.count(5), 7);
        due("fee", x.singer(0, 2), 9);
        due("again(2)", x.again(2), true);
        due("place", x.barge(0, 0), 1);
        due("water", x.count(4), 3);
        write(x, "").locks();
        write(x, "x").locks();
        due("nothing came", x.again(0), true);
        write(x, "aaaa1").locks();
        due("locks came", x.again(0), false);
        due("locks came", x.again(2), false);
        x.keep(0);
        due("kept anew", x.again(0), true);
        write(x, "aa0:0").singers();
        due("singers came", x.again(0), false);
        x.keep(0);
        write(x, "00").barges();
        due("barges came", x.again(0), false);
    }

    private static void count() {
        about = "promise 41";
        LocksBySong x = hired(usual(), 0, 0, 3);
        write(x, "01").barges();
        x.pass(0, 1);
        x.leave(1);
        x.set(1, 6);
        x.heard(3, 1);
        x.sign(0);
        int[] want = {2, 4, 2, 8, 20, 6, 1, 2, 4, 1, 2, 4, 4};
        for (int what = 0; what < want.length; what++) {
            due("count(" + what + ")", x.count(what), want[what]);
        }
        due("count(13)", x.count(13), -100);
        due("count(-1)", x.count(-1), -100);
    }

    private static void row() {
        about = "promise 42";
        LocksBySong x = new LocksBySong();
        dueNone("row(0)", () -> x.row(0));
        x.opens(2, 5);
        due("row(0)", x.row(0), 31);
        due("row(1)", x.row(1), 256);
        dueNone("row(2)", () -> x.row(2));
        dueNone("row(-1)", () -> x.row(-1));
        dueNone("row(int least)", () -> x.row(Integer.MIN_VALUE));
        x.forget();
        x.rest(3);
        x.undo();
        due("calls that tell none leave it", x.row(1), 256);
    }

    /** The ROW is what was told last: answers that the document gives no row leave it. */
    private static void refusedCallsTellNoRow() {
        about = "promise 2";
        LocksBySong x = usual();
        x.opens(2, 5);
        x.voices(0, 9);
        x.pays(0, 9);
        x.shift(0, 0);
        x.pass(0, 0);
        x.pass(0, 1);
        x.hires(0, 9);
        write(x, "x").day();
        write(x, "x").queue(0);
        x.days(0, 0);
        x.set(1, 1);
        x.voices(0, 0);
        x.hires(0, 1);
        x.rested(0, 1);
        x.heard(0, 0);
        x.heard(0, 1);
        x.listen();
        dueRow(x, 31, 256);
    }
}
