import java.util.ArrayList;
import java.util.Arrays;
import java.util.List;

/** Runs of many calls on one object, at most 512, worked out by hand: what one call leaves is seen by the next. */
public final class LocksBySongLongRunsTest extends Checks {
    public static void main(String[] args) {
        runAll(LocksBySongLongRunsTest.class);
    }

    /**
     * A line is a call and what is due: name, a text in ' ' that is put in ahead of it, numbers, =, the
     * answer (or throws), and in [ ] the ROW behind it.
     */
    private static void story(Calls c, String... lines) {
        for (String line : lines) {
            String[] sides = line.split(" = ");
            String[] asked = sides[0].split(" ");
            int from = 1;
            if (asked.length > 1 && asked[1].startsWith("'")) {
                c.write(asked[1].substring(1, asked[1].length() - 1));
                from = 2;
            }
            int[] args = Arrays.stream(asked).skip(from).mapToInt(Integer::parseInt).toArray();
            int bracket = sides[1].indexOf('[');
            String answer = (bracket < 0 ? sides[1] : sides[1].substring(0, bracket)).trim();
            due(line, c.ask(asked[0], args), answer.equals("throws") ? Model.THROWN : Long.parseLong(answer));
            if (bracket >= 0) {
                dueRowOf(c, line, sides[1].substring(bracket));
            }
        }
    }

    private static void dueRowOf(Calls c, String line, String want) {
        String got = c.row().toString().replace(",", "");
        if (!got.equals(want)) {
            fail(line + ": the row is " + got + ", due is " + want);
        }
    }

    private static Calls told(String locks, String singers, String barges) {
        Calls c = new Calls();
        due("locks", c.told(locks, "locks") > 0, true);
        due("singers", c.told(singers, "singers") > 0, true);
        due("barges", c.told(barges, "barges") > 0, true);
        return c;
    }

    /** All that undo() and again() bring back, and all else that count() tells of the canal. */
    private static List<Long> look(Calls c) {
        List<Long> seen = new ArrayList<>();
        for (int what : new int[] {3, 4, 6, 7, 8}) {
            seen.add(c.ask("count", what));
        }
        for (int b = 0; b < 2; b++) {
            seen.add(c.ask("barge", b, 0));
            seen.add(c.ask("barge", b, 2));
            seen.add(c.ask("barge", b, 3));
        }
        return seen;
    }

    private static void dueLook(String when, Calls c, List<Long> want) {
        List<Long> got = look(c);
        if (!got.equals(want)) {
            fail(when + " it is " + got + ", due is " + want);
        }
    }

    // ---- there and back

    static void thereAndBackKeptAndUndone() {
        Calls c = new Calls();
        story(c,
            "count 11 = 0", "row 0 = throws", "lock 0 0 = throws", "singer 0 0 = throws", "barge 0 0 = throws",
            "locks 'acef3;bdgi2' = 2", "singers 'ad0:5;cf0:7;eh0:9;fz0:20' = 4", "barges '02' = 1",
            "hires 0 2 = 15 [41]", "voices 0 0 = 15 [41]",
            "hire 0 0 = 95", "hire 0 1 = 88", "hire 0 2 = 79",
            "lacks 0 0 = 3 [7]", "sings 0 0 = 0 []", "pass 0 1 = -3", "voices 0 0 = 8 [20]",
            "hire 0 3 = 59", "row 0 = 20", "row 1 = throws",
            "spoils 0 0 = 1 [1]", "journey 0 2 = 16 [2 0 8]", "count 3 = 0", "keep 0 = 1",
            "pass 0 1 = 8 [0 1 2 3]", "count 3 = 8", "journey 0 2 = 8 [1 0 8]", "journey 0 0 = 10 [1 1 8]", "keep 1 = 1",
            "pass 0 1 = 8 [0 1 2 3]", "pass 0 1 = -2", "pass 0 0 = -3", "row 3 = 3",
            "journey 0 0 = -2 [0 1 3]", "rested 0 0 = 10 [20]", "rested 0 1 = 10 [8]",
            "day 'r10;d0;d0' = 3 [0 2]",
            "count 3 = 46", "count 4 = 18", "count 6 = 0", "count 8 = 12", "barge 0 0 = 0", "singer 3 4 = 0", "singer 3 3 = 3",
            "count 10 = 7", "undo = 6",
            "count 3 = 16", "count 4 = 20", "count 6 = 3", "count 8 = 8", "barge 0 0 = 2", "singer 3 4 = 2",
            "again 1 = 1", "count 10 = 0", "undo = -1",
            "count 3 = 8", "count 4 = 20", "count 6 = 1", "count 8 = 4", "barge 0 0 = 1",
            "pass 0 0 = 10 [0 1 2 3]", "count 3 = 18", "count 4 = 19", "count 6 = 0", "undo = 0", "count 4 = 20", "count 6 = 1",
            "again 0 = 1", "again 2 = 0", "count 3 = 0", "count 8 = 0", "count 7 = 0", "barge 0 0 = 0", "barge 0 2 = 59", "barge 0 3 = 15",
            "locks 'aaaa1' = 1", "again 0 = 0", "again 1 = 0", "undo = -1", "count 0 = 3",
            "journey 0 3 = -2 [2 2 3]", "hires 0 3 = -2", "journey 0 2 = 16 [2 0 8]");
    }

    static void asTheReadmeSays() {
        story(new Calls(), "locks 'acef3;b' = -8", "locks 'acef3;bdgi2' = 2", "singers 'ad0:5;cf0:7;eh0:9;fz0:20' = 4", "barges '02' = 1",
            "voices 0 0 = 15 [41]", "hire 0 0 = 95", "hire 0 1 = 88", "hire 0 2 = 79", "hire 0 3 = 59", "journey 0 2 = 16 [2 0 8]",
            "pass 0 1 = 8 [0 1 2 3]", "undo = 4", "day 'l1;h01;u0;r30;d0;l1' = 6 [0 2]", "queue 'udu' 0 = 1 [0 0 1 2]");
    }

    /** Four who sing all: pass i takes 2 and half of 4 times TIRED, which is i, 9 at most. */
    static void upAndDownTillThereIsNoWater() {
        Calls c = told("aaaa1", times(4, "az0:0"), "00");
        for (int s = 0; s < 4; s++) {
            due("hire", c.ask("hire", 0, s), 100);
        }
        long now = 0;
        for (int i = 0; i < 40; i++) {
            long tired = Math.min(9, i);
            now += 2 + 2 * tired;
            due("pass " + i, c.ask("pass", 0, 1 - i % 2), 2 + 2 * tired);
            due("now behind " + i, c.ask("count", 3), now);
            due("water behind " + i, c.ask("count", 4), 20 - (i + 1) / 2);
            due("level behind " + i, c.ask("lock", 0, 5), 1 - i % 2);
            due("tired behind " + i, c.ask("count", 8), 4 * Math.min(9, i + 1));
            due("undone behind " + i, c.ask("count", 10), Math.min(15, 5 + i));
            due("place behind " + i, c.ask("singer", 3, 4), 1 - i % 2);
        }
        story(c, "pass 0 1 = 20 [0 1 2 3]", "pass 0 0 = -4", "journey 0 0 = -2 [0 0 4]", "rested 0 0 = -2", "hires 0 0 = 0 [0]", "jams = 0 [0 1]",
            "set 0 1 = 0", "jams = 1 [0 1]", "journey 0 0 = 20 [1 1 36]", "pass 0 0 = 20 [0 1 2 3]", "count 4 = 0", "pass 0 1 = 20",
            "rest 600 = 1370", "count 8 = 0", "journey 0 0 = -2 [0 0 4]", "undo = 14", "count 8 = 36", "count 3 = 770");
        // 14 of 43 passes can be undone still: all is then as behind pass 28.
        for (int left = 13; left >= 0; left--) {
            due("undo", c.ask("undo"), left);
        }
        story(c, "undo = -1", "count 8 = 36", "count 4 = 6", "barge 0 0 = 1");
    }

    // ---- undone

    /** Twenty deeds of all kinds; the latest 15 come back one by one. */
    static void allKindsOfDeedsAreUndoneInTurn() {
        Calls c = told("aabb2;ccdd1", "az0:1;bz0:2;az0:3;az0:4;az0:50;az1:1", "03;01");
        String[] deeds = {
            "rest 3 = 3", "hire 0 0 = 99", "hire 0 4 = 49", "leave 4 = 0", "hire 1 4 = 50", "hire 0 1 = 47", "hire 0 2 = 44",
            "day 'h03' = 1 [0 0]", "pass 0 1 = 7 [0 2 1 3]", "rest 0 = 10", "hire 0 5 = 39", "day 'u0;r5;d0;d1' = 3 [1 2]", "rest 9 = 38",
            "leave 0 = 0", "pass 0 0 = 8 [2 3 1 5]", "leave 5 = 0", "day 'l4;r999' = 1 [1 0]", "rest 600 = 646", "hire 1 5 = 49", "day 'r1;r1;l5' = 3 [0 0]"};
        List<List<Long>> ahead = new ArrayList<>();
        for (int i = 0; i < deeds.length; i++) {
            ahead.add(look(c));
            story(c, deeds[i]);
            due("undone", c.ask("count", 10), Math.min(15, i + 1));
        }
        for (int i = deeds.length - 1; i >= deeds.length - 15; i--) {
            due("undo", c.ask("undo"), i - (deeds.length - 15));
            dueLook("ahead of " + deeds[i], c, ahead.get(i));
        }
        story(c, "undo = -1", "count 10 = 0");
    }

    static void refusedDeedsLeaveNothingToUndo() {
        Calls c = told("aaaa1", times(4, "az0:0") + ";az1:0", "00");
        story(c,
            "hire 0 0 = 100", "hire 0 0 = -2", "hire 0 4 = -2", "hire 1 0 = -1", "leave 1 = -2", "leave 5 = -1", "pass 0 1 = -3", "pass 0 0 = -2",
            "pass 0 2 = -1", "rest 601 = -1", "rest -1 = -1", "day 'l1;r5' = 0 [1 0]", "day 'r5;' = -4", "row 0 = 1", "day = 0 [0 0]",
            "count 10 = 1", "count 3 = 0", "undo = 0", "barge 0 3 = 0", "undo = -1",
            "day 'h00;h01;h02;h03;u0;u0;r5' = 5 [1 1]", "count 10 = 1", "barge 0 0 = 1", "count 3 = 2",
            "day 'd0;d0' = 1 [1 1]", "count 10 = 2", "count 4 = 19",
            "undo = 1", "count 4 = 20", "barge 0 0 = 1", "undo = 0", "barge 0 3 = 0", "count 3 = 0", "count 6 = 0", "count 8 = 0");
    }

    // ---- texts

    static void theTextStaysWhileOtherCallsAreMade() {
        Calls c = new Calls();
        story(c,
            "sign 1633903974 = 4", "rest 5 = 5", "hire 0 0 = -1", "count 12 = 4", "sign 859529828 = 8", "undo = 0", "opens 1 10 = 0 [0 1]",
            "keep 0 = 1", "sign 1734947328 = 12", "again 0 = 1", "jams = 0 [0 1]", "count 12 = 12", "end 13 = 0", "end -1 = 0", "end 11 = 1", "end 12 = 0",
            "locks = 2", "count 12 = 0", "locks = 0", "count 0 = 2", "lock 1 4 = 2", "again 0 = 0");
        for (int i = 1; i <= 20; i++) {
            due("sign", c.ask("sign", Calls.four("aaaa1;aaaa1;", (i - 1) % 3 * 4)), 4 * i);
        }
        story(c,
            "sign 0 = -1", "count 12 = 80", "locks = -37", "count 12 = 0", "count 0 = 2",
            "sign 1970562420 = 4", "queue 2 = -1", "count 12 = 0", "queue 0 = -2", "queue 'ud?' 0 = -4", "row 0 = 0", "queue 'ud' 0 = 1 [0 0 1]",
            "rule 'n*' = -3", "rule 'n*9' = 0", "rule = 0", "day 'r' = -2", "day 'r5' = 1 [0 0]", "count 3 = 5");
    }

    /** Each text that is refused leaves what was there; lines are told again as soon as there is a place. */
    static void aCanalThatGrows() {
        Calls c = new Calls();
        story(c,
            "barges '10' = -1", "barges '00' = 1", "singers 'az1:5' = -3", "singers 'az0:5;ab0:99' = 2", "rest 3 = 3", "keep 2 = 1",
            "locks 'aaaa0' = -5", "locks 'abca1' = -4", "again 2 = 1", "rest 1 = 4", "locks = 0", "undo = 0", "count 3 = 3", "again 2 = 1",
            "locks 'aaaa1' = 1", "again 2 = 0", "count 3 = 3", "journey 0 1 = -2 [0 0 3]", "journey 0 2 = -1", "singers 'az1:5;az0:5;az2:5' = -15",
            "count 1 = 2", "singer 2 0 = throws", "locks 'bbbb9' = 1", "singers 'az1:5;az0:5;az2:5' = 3", "count 1 = 5", "singer 4 4 = 2",
            "journey 0 2 = -2 [0 0 3]", "barges '29;1;00' = -5", "count 2 = 1", "barges '29;10;00;00' = -10", "barges '29;10;00' = 3", "barge 1 1 = 9",
            "barges '00' = -1", "hire 1 4 = 95", "hire 2 2 = 95", "hire 3 3 = 95", "hire 0 0 = 95", "hire 0 1 = -3", "count 7 = 2", "count 10 = 4",
            "singers 'az2:1;az2:1;az2:1;az2:1' = -19", "count 10 = 4", "singers 'az2:1;az2:1;az2:1' = 3", "count 10 = 0", "count 1 = 8", "singers 'az0:1' = -1",
            "hire 1 5 = 94", "hire 1 6 = 93", "hire 1 7 = 92", "pass 1 0 = 30 [4 5 6 7]", "count 6 = 0", "count 4 = 19");
        String six = times(6, "cccc1");
        due("seven where six have room", c.told(six + ";cccc1", "locks"), -37);
        due("six", c.told(six, "locks"), 6);
        due("none", c.told("c", "locks"), -1);
        story(c, "count 0 = 8", "count 10 = 0", "undo = -1", "journey 1 8 = 149 [7 0 32]", "journey 1 0 = 16 [1 1 8]");
    }

    // ---- fees and the purse

    static void feesChangeWhatWasPaidDoesNot() {
        Calls c = told("aaaa1", "az0:5;az0:7;az0:9;az0:20", "00;00");
        story(c,
            "hire 0 0 = 95", "sheet 2 4 30 10 = 180", "singer 0 2 = 30", "barge 0 2 = 95", "hire 0 1 = 55", "hire 0 2 = 5", "hire 0 3 = -3",
            "voices 0 0 = 8 [60]", "leave 0 = 0", "hire 0 0 = -3", "voices 0 0 = 9 [90]", "pays 0 0 = 9999 [9999 0 0 9999]",
            "hire 1 0 = 70", "voices 0 0 = -2", "pays 0 0 = -2", "undo = 4", "barge 1 2 = 100", "barge 0 3 = 6",
            "sheet 0 3 100 100 = 143", "singer 0 2 = 99", "singer 1 2 = 0", "singer 2 2 = 44", "singer 3 2 = 0", "undo = 3", "barge 0 3 = 7", "barge 0 2 = 5",
            "singer 0 2 = 99", "undo = 2", "barge 0 2 = 55", "hire 0 2 = 11", "hire 0 3 = 11", "spoils 0 0 = 1 [1]",
            "sheet 3 0 0 0 = -3", "sheet 1 -1 7 7 = -2", "sheet 4 1 7 7 = -1", "sheet 1 1 65535 0 = 0", "sheet 1 1 65537 0 = 1", "leave 0 = 0", "hire 1 0 = 99",
            "keep 0 = 1", "sheet 2 8 1 1 = 10", "leave 0 = 1", "pays 0 0 = 9999 [9999 0 0 0]", "again 0 = 1", "singer 0 5 = 1", "singer 3 2 = 4", "undo = -1",
            "leave 1 = 0", "leave 2 = 0", "leave 3 = 0", "leave 0 = 1", "singers 'az0:2;az0:9' = 2", "voices 0 0 = 23 [8]",
            "pays 0 0 = 3 [3 2 1 0 2 0]", "jams = 0 [0 1]", "set 1 1 = 0", "voices 0 0 = -2", "set 1 0 = 1", "voices 0 0 = 23 [8]");
    }

    // ---- the rule

    static void theRuleIsThatOfTheMinute() {
        Calls c = told("aaaa3;aaaa4", times(5, "az0:0"), "07");
        for (int s = 0; s < 5; s++) {
            c.ask("hire", 0, s);
        }
        story(c,
            "journey 0 2 = 30 [2 0 8]", "rule 'm+1' = 0", "journey 0 2 = 3 [2 0 8]", "rule '9*(n=3)+c*(n=4)' = 0", "journey 0 2 = 14 [2 0 8]",
            "rule 'm+1)' = -4", "journey 0 2 = 14", "keep 0 = 1", "pass 0 1 = 9 [0 1 2 3]", "rule 't' = 0", "pass 0 1 = 4", "pass 0 0 = 8", "pass 0 0 = 12",
            "rule 'w*10+u' = 0", "pass 0 1 = 1", "undo = 9", "rule 'w*10+u-2*l' = 0", "pass 0 1 = 1", "rule '1000' = -4", "rule '999' = 0", "pass 0 1 = 99", "count 3 = 133",
            "again 0 = 1", "count 3 = 0", "journey 0 1 = 99 [1 0 4]", "rule = 0", "journey 0 1 = 13 [1 0 4]", "rest 59 = 59", "rule 'm' = 0", "pass 0 1 = 59",
            "pass 0 1 = 58", "pass 0 0 = 56", "pass 0 0 = 52", "count 3 = 284", "rest 6 = 290", "count 8 = 12", "rest 10 = 300", "pass 0 1 = 1");
    }

    // ---- the night

    static void theNightIsLeftByAllElse() {
        Calls c = told("aaaa1", "ac0:0;bd0:0", "00");
        story(c,
            "who = 3 [2]", "listen = 0 [1]", "parts = 1 [1]", "heard 1 1 = 1", "who = 3 [2]", "heard 0 0 = 2", "who = 2 [1]", "listen = 0 [1]", "parts = 0 [0]",
            "rest 10 = 10", "keep 1 = 1", "undo = 0", "again 1 = 1", "count 9 = 2", "set 1 67108863 = 0", "who = 2 [1]", "singers 'ay0:0;bz0:0;bz0:0' = 3", "count 9 = 2",
            "who = 26 [3]", "listen = 4 [2]", "parts = -2", "heard 25 0 = 3", "who = 2 [1]", "forget = 3", "forget = 0", "who = 31 [5]", "listen = 0 [3]",
            "parts = -2", "heard 3 1 = 1", "heard 3 0 = 2", "who = 0 [0]", "listen = -2", "parts = 0 [0]", "forget = 2",
            "heard 2 1 = 1", "heard 2 1 = 2", "heard 2 1 = 3", "heard 2 1 = 4", "heard 2 1 = 5", "heard 2 1 = 6", "heard 2 1 = 7", "heard 2 1 = 8", "heard 2 1 = 9",
            "heard 2 1 = 10", "heard 2 1 = 11", "heard 2 1 = 12", "heard 3 0 = -1", "who = 31 [5]", "count 9 = 12", "forget = 12", "heard 3 0 = 1", "who = 1 [1]");
    }

    // ---- asked, then done

    private static final int CANALS = 500;
    private static final int ENOUGH = 400;

    /** A canal with fees that a PURSE can pay, and crews that are made, tire and part as the draws will. */
    private static Calls drawnCanal(Drawn drawn) {
        int locks = 1 + drawn.below(3);
        Calls c = told(drawn.lockText(locks), drawn.singerText(8, drawn.seldom(3) ? locks : 0), drawn.bargeText(2, drawn.seldom(3) ? 1 : 0));
        c.ask("sheet", 2, 8, drawn.below(9), drawn.below(3));
        int barge = drawn.below(2);
        for (int s = 0; s < 8; s++) {
            c.ask("hire", drawn.seldom(6) ? 1 - barge : barge, s);
        }
        for (int i = 0; i < 6; i++) {
            c.ask("pass", drawn.below(2), drawn.below(2));
        }
        if (drawn.seldom(2)) {
            c.ask("leave", drawn.below(8));
        }
        return c;
    }

    interface Asking {
        /** What is asked and then done of a drawn canal; kept under 0 it is brought back behind it. */
        boolean holds(Calls c, Drawn drawn);
    }

    /** Each canal is asked till its calls are used up; some must have had something to do. */
    private static void dueOfCanals(int mostCalls, Asking asking) {
        int done = 0;
        for (int seed = 0; seed < CANALS; seed++) {
            Drawn drawn = new Drawn(seed);
            Calls c = drawnCanal(drawn);
            about = about.replaceAll(" .*", "") + " seed " + seed;
            while (c.left() > mostCalls + 40) {
                c.ask("keep", 0);
                done += asking.holds(c, drawn) ? 1 : 0;
                due("again", c.ask("again", 0), 1);
                stir(c, drawn);
            }
        }
        due("enough was done: " + done, done >= ENOUGH, true);
    }

    private static void stir(Calls c, Drawn drawn) {
        c.ask("pass", drawn.below(2), drawn.below(2));
        c.ask("rest", drawn.below(25));
        c.ask("leave", drawn.below(8));
        // Hired for nothing, so that no PURSE is ever empty.
        c.ask("sheet", 3, 0, 0, 0);
        int barge = drawn.below(2);
        for (int s = 0; s < 8; s++) {
            c.ask("hire", drawn.seldom(6) ? 1 - barge : barge, s);
        }
        c.ask("sheet", 2, 8, drawn.below(5), drawn.below(3));
        c.ask("set", 0, drawn.below(6));
    }

    private static int drawnLock(Calls c, Drawn drawn) {
        return drawn.below((int) c.ask("count", 0));
    }

    private static int drawnPlace(Calls c, Drawn drawn) {
        return drawn.below((int) c.ask("count", 0) + 1);
    }

    static void aJourneyIsAsItsPasses() {
        dueOfCanals(60, (c, drawn) -> {
            int barge = drawn.below(2);
            int place = drawnPlace(c, drawn);
            long asked = c.ask("journey", barge, place);
            List<Long> row = c.row();
            long water = c.ask("count", 4);
            long minutes = 0;
            long passed = 0;
            long last = 0;
            long at = c.ask("barge", barge, 0);
            while (at != place && last >= 0) {
                last = c.ask("pass", barge, at < place ? 1 : 0);
                minutes += Math.max(0, last);
                passed += last >= 0 ? 1 : 0;
                at = c.ask("barge", barge, 0);
            }
            due("locks gone through", row.get(0), passed);
            if (last < 0) {
                due("it can't", asked, -2);
                due("where it can't", row.get(1), at < place ? at : at - 1);
                due("why it can't", row.get(2), -last);
            } else {
                due("minutes", asked, minutes);
                due("water", row.get(1), water - c.ask("count", 4));
                due("tired", row.get(2), tiredOf(c, barge));
            }
            return passed > 0;
        });
    }

    private static long tiredOf(Calls c, int barge) {
        long crew = c.ask("barge", barge, 3);
        long tired = 0;
        for (int s = 0; s < 8; s++) {
            tired += (crew >> s & 1) == 1 ? c.ask("singer", s, 3) : 0;
        }
        return tired;
    }

    static void whoRestedComesThere() {
        dueOfCanals(20, (c, drawn) -> {
            int barge = drawn.below(2);
            int place = drawnPlace(c, drawn);
            long asked = c.ask("rested", barge, place);
            long journey = asked >= 0 ? c.ask("row", 0) : -2;
            c.ask("rest", asked >= 0 ? (int) asked : 90);
            due("the journey then", c.ask("journey", barge, place), journey);
            if (asked > 0) {
                c.ask("undo");
                c.ask("rest", (int) asked - 10);
                due("with less rest", c.ask("journey", barge, place), -2);
            }
            return asked > 0 || asked == 0 && journey > 0;
        });
    }

    /** Those of voices() are hired, and none of them can be done without. */
    static void voicesThatAreHiredSing() {
        dueOfCanals(40, (c, drawn) -> {
            int barge = drawn.below(2);
            int lock = drawnLock(c, drawn);
            for (int s = 0; s < 8; s++) {
                if (drawn.seldom(2)) {
                    c.ask("leave", s);
                }
            }
            long set = c.ask("voices", barge, lock);
            if (set < 0) {
                due("nobody can be done without", c.ask("pays", barge, lock), -2);
                return false;
            }
            long fees = c.ask("row", 0);
            long purse = c.ask("barge", barge, 2);
            boolean all = true;
            for (int s = 0; s < 8; s++) {
                all &= (set >> s & 1) == 0 || c.ask("hire", barge, s) >= 0;
            }
            if (!all) {
                return false;
            }
            due("fees", purse - c.ask("barge", barge, 2), fees);
            due("sings", c.ask("sings", barge, lock), 1);
            due("lacks", c.ask("lacks", barge, lock), 4);
            for (int s = 0; s < 8; s++) {
                if ((set >> s & 1) == 1) {
                    c.ask("leave", s);
                    due("sings without " + s, c.ask("sings", barge, lock), 0);
                    c.ask("undo");
                }
            }
            return set > 0;
        });
    }

    /** Each pass tires by 1 and 10 minutes of rest take it back, so that TIRED is as it was at each LOCK. */
    static void hiredOnTheWayTheySingAtEachLock() {
        dueOfCanals(60, (c, drawn) -> {
            int barge = drawn.below(2);
            int place = drawnPlace(c, drawn);
            for (int s = 0; s < 8; s++) {
                c.ask("leave", s);
            }
            c.ask("rest", 90);
            c.ask("set", 0, 999);
            long set = c.ask("hires", barge, place);
            c.ask("sheet", 3, 0, 0, 0);
            long at = c.ask("barge", barge, 0);
            for (int lock = 0; lock < 8 && set >= 0 && at != place; lock++) {
                for (int s = 0; s < 8; s++) {
                    if ((set >> s & 1) == 1) {
                        c.ask("hire", barge, s);
                    }
                }
                due("pass", c.ask("pass", barge, at < place ? 1 : 0) >= 0, true);
                c.ask("rest", 10);
                at = c.ask("barge", barge, 0);
            }
            due("all of them were needed and hired", set < 0 ? 0 : c.ask("barge", barge, 3), Math.max(0, set));
            return set > 0;
        });
    }

    static void whoSpoilsASongLeaves() {
        dueOfCanals(40, (c, drawn) -> {
            int barge = drawn.below(2);
            int lock = drawnLock(c, drawn);
            long many = c.ask("spoils", barge, lock);
            long set = c.ask("row", 0);
            due("how many", Long.bitCount(set), many);
            due("it does as it is", c.ask("sings", barge, lock), many > 0 ? 1 : 0);
            for (int s = 0; s < 8; s++) {
                if ((set >> s & 1) == 1) {
                    due("with " + s, c.ask("sings", barge, lock), 1);
                    due("leave", c.ask("leave", s), barge);
                }
            }
            due("without them", c.ask("sings", barge, lock), 0);
            return many > 0;
        });
    }

    private static boolean canPass(Calls c, int barge) {
        for (int up = 0; up < 2; up++) {
            if (c.ask("pass", barge, up) >= 0) {
                c.ask("undo");
                return true;
            }
        }
        return false;
    }

    static void jammedNotesKeepAsManyBarges() {
        dueOfCanals(40, (c, drawn) -> {
            long kept = c.ask("jams");
            int notes = 1 << c.ask("row", 0) | 1 << c.ask("row", 1);
            int could = (canPass(c, 0) ? 1 : 0) + (canPass(c, 1) ? 1 : 0);
            int was = (int) c.ask("set", 1, notes);
            due("nothing was jammed", was, 0);
            int can = (canPass(c, 0) ? 1 : 0) + (canPass(c, 1) ? 1 : 0);
            due("barges kept", could - can, kept);
            c.ask("set", 1, 0);
            return kept > 0;
        });
    }

    static void daysAreAsTheyAreDone() {
        dueOfCanals(70, (c, drawn) -> {
            int seed = drawn.random.nextInt();
            int n = 1 + drawn.below(30);
            long asked = c.ask("days", seed, n);
            List<Long> row = c.row();
            long start = c.ask("count", 3);
            long passed = 0;
            long r = seed;
            for (int i = 0; i < n; i++) {
                r = r * 1103515245L + 12345L & 0xffffffffL;
                int barge = (int) (r / 65536 % 2);
                r = r * 1103515245L + 12345L & 0xffffffffL;
                int act = (int) (r / 65536 % 3);
                long did = act == 2 ? c.ask("rest", 10) : c.ask("pass", barge, 1 - act);
                passed += act < 2 && did >= 0 ? 1 : 0;
            }
            due("locks gone through", asked, passed);
            due("minutes in all", row.get(0), c.ask("count", 3) - start);
            due("water that is left", row.get(1), c.ask("count", 4));
            return passed > 0;
        });
    }

    /** One that the other BARGE hires away is one without which voices() is dearer by so much. */
    static void whoIsHiredAwayMakesASongDearer() {
        dueOfCanals(60, (c, drawn) -> {
            int barge = drawn.below(2);
            int lock = drawnLock(c, drawn);
            for (int s = 0; s < 8; s++) {
                c.ask("leave", s);
            }
            long greatest = c.ask("pays", barge, lock);
            if (greatest < 0 || c.ask("barge", 0, 0) != c.ask("barge", 1, 0)) {
                return false;
            }
            List<Long> row = c.row();
            c.ask("voices", barge, lock);
            long fees = c.ask("row", 0);
            long most = 0;
            for (int s = 0; s < 8; s++) {
                most = Math.max(most, row.get(s));
                long hired = c.ask("hire", 1 - barge, s);
                if (hired == -3) {
                    continue;
                }
                long dearer = c.ask("voices", barge, lock) < 0 ? 9999 : c.ask("row", 0) - fees;
                due("by " + s, row.get(s), dearer);
                if (hired >= 0) {
                    c.ask("undo");
                }
            }
            due("the greatest", greatest, most);
            return greatest > 0;
        });
    }

    /** What is kept and brought back goes on as it did. */
    static void broughtBackItGoesOnAsItDid() {
        dueOfCanals(120, (c, drawn) -> {
            String deeds = "u0;r9;d1;u1;r" + drawn.below(30) + ";d0;l" + drawn.below(8);
            long did = c.told(deeds, "day");
            List<Long> row = c.row();
            List<Long> seen = look(c);
            due("again", c.ask("again", 0), 1);
            due("as a day once more", c.told(deeds, "day"), did);
            due("with its row", row.equals(c.row()), true);
            dueLook("as a day once more", c, seen);
            due("undo", c.ask("undo"), did > 0 ? 0 : -1);
            long done = 0;
            boolean refused = false;
            for (String act : deeds.split(";")) {
                refused = refused || deed(c, act) < 0;
                done += refused ? 0 : 1;
            }
            due("one by one", done, did);
            dueLook("one by one", c, seen);
            due("undone", c.ask("count", 10), done);
            return did > 1;
        });
    }

    private static long deed(Calls c, String act) {
        int number = Integer.parseInt(act.substring(1));
        switch (act.charAt(0)) {
            case 'r':
                return c.ask("rest", number);
            case 'l':
                return c.ask("leave", number);
            default:
                return c.ask("pass", number, act.charAt(0) == 'u' ? 1 : 0);
        }
    }

    /** Of two that do the same, one is asked between its deeds. */
    static void askingBetweenDeedsChangesNothing() {
        String[] questions = {"sings", "lacks", "spoils", "shift", "voices", "journey", "hires", "rested", "pays", "days", "opens", "tries"};
        for (int seed = 0; seed < CANALS; seed++) {
            about = "askingBetweenDeedsChangesNothing seed " + seed;
            Calls silent = drawnCanal(new Drawn(seed));
            Calls asked = drawnCanal(new Drawn(seed));
            Drawn drawn = new Drawn(~seed);
            while (asked.left() > 40) {
                for (int i = 0; i < 5; i++) {
                    asked.ask(questions[drawn.below(questions.length)], drawn.below(2), drawn.below(4));
                }
                for (String question : new String[] {"jams", "who", "listen", "parts"}) {
                    asked.ask(question);
                }
                asked.told("udud", "queue", 0);
                asked.ask("rests", drawn.below(10));
                String act = "rlud".charAt(drawn.below(4)) + "" + drawn.below(2);
                due(act, deed(asked, act), deed(silent, act));
            }
            dueLook("with questions", asked, look(silent));
        }
    }

    /** No NOTE leaves fewer at the most than the one that listen() tells, and none below it as few. */
    static void listeningLeavesTheFewest() {
        for (int seed = 0; seed < CANALS; seed++) {
            about = "listeningLeavesTheFewest seed " + seed;
            Drawn drawn = new Drawn(seed);
            Calls c = told("aaaa1", drawn.singerText(8, 0), "00");
            int first = drawn.below(26);
            c.ask("heard", first, 1);
            long note = c.ask("listen");
            long most = note < 0 ? 0 : c.ask("row", 0);
            for (int n = 0; n < 26 && note >= 0; n++) {
                long left = Math.max(leftBehind(c, first, n, 1), leftBehind(c, first, n, 0));
                due("by " + n, n < note ? left > most : n == note ? left == most : left >= most, true);
            }
            due("there are none", note < 0, c.ask("who") == 0);
        }
    }

    private static long leftBehind(Calls c, int first, int note, int is) {
        c.ask("heard", note, is);
        long left = Long.bitCount(c.ask("who"));
        due("the row of who()", c.ask("row", 0), left);
        c.ask("forget");
        c.ask("heard", first, 1);
        return left;
    }

    /** w tells of each filling or emptying: with w+1 the minutes less the BARGES are as many. */
    static void aQueuePassesAsItIsTold() {
        for (String queue : new String[] {"u", "d", "uu", "ud", "du", "dd"}) {
            dueQueuePasses(queue, 0);
        }
        for (String queue : new String[] {"u", "d", "ud", "du", "dd"}) {
            dueQueuePasses(queue, 1);
        }
    }

    /** With LEVEL 0 each BARGE is told where it waits; with 1 those above have gone up, or one that does not wait. */
    private static void dueQueuePasses(String queue, int level) {
        StringBuilder singers = new StringBuilder();
        StringBuilder barges = new StringBuilder();
        for (int b = 0; b < 2; b++) {
            int place = level == 0 && b < queue.length() && queue.charAt(b) == 'd' ? 1 : 0;
            singers.append(b > 0 ? ";" : "").append(times(4, "az" + place + ":0"));
            barges.append(b > 0 ? ";" : "").append(place).append('0');
        }
        Calls c = told("aaaa1", singers.toString(), barges.toString());
        due("rule", c.told("w+1", "rule"), 0);
        for (int s = 0; s < 8; s++) {
            due("hire", c.ask("hire", s / 4, s), 100);
        }
        for (int b = 0; b < 2 && level == 1; b++) {
            if (b >= queue.length() || queue.charAt(b) == 'd') {
                due("it goes above", c.ask("pass", b, 1) > 0, true);
            }
        }
        due("level", c.ask("lock", 0, 5), level);
        long water = c.told(queue, "queue", 0);
        List<Long> row = c.row();
        long had = c.ask("count", 4);
        long minutes = 0;
        for (int i = 0; i < queue.length(); i++) {
            int barge = row.get(i + 1).intValue();
            minutes += c.ask("pass", barge, queue.charAt(barge) == 'u' ? 1 : 0);
        }
        due("water of " + queue, had - c.ask("count", 4), water);
        due("fillings and emptyings of " + queue, minutes - queue.length(), row.get(0));
    }
}
