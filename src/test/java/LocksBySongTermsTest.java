/** The bounds that "Terms" names: of locks, singers, barges, water, songs, passing, and of THE RULE. */
public final class LocksBySongTermsTest extends Checks {
    public static void main(String[] args) {
        runAll(LocksBySongTermsTest.class);
    }

    // ---- locks, singers, barges

    static void eightLocksAndNoNinth() {
        LocksBySong x = new LocksBySong();
        dueLocks(x, times(5, "aaaa1"), 5);
        dueLocks(x, times(4, "aaaa2"), -19);
        dueLocks(x, times(3, "aaaa3"), 3);
        due("held of the last", x.lock(7, 4), 3);
        dueNone("lock(8, 4)", () -> x.lock(8, 4));
        dueLocks(x, "aaaa1", -1);
        due("levels are 0 at first", x.count(6), 0);
    }

    static void eightSingersAndNoNinth() {
        LocksBySong x = new LocksBySong();
        dueSingers(x, times(5, "az0:1"), 5);
        dueSingers(x, times(4, "az0:2"), -19);
        dueSingers(x, times(3, "az0:3"), 3);
        due("fee of the last", x.singer(7, 2), 3);
        dueNone("singer(8, 2)", () -> x.singer(8, 2));
        dueSingers(x, "az0:1", -1);
        due("none is tired at first", x.count(8), 0);
        due("none is in a crew at first", x.count(7), 255);
    }

    static void fourBargesAndNoFifth() {
        LocksBySong x = new LocksBySong();
        dueBarges(x, "01;02", 2);
        dueBarges(x, "03;04;05", -7);
        dueBarges(x, "06;07", 2);
        due("load of the last", x.barge(3, 1), 7);
        due("purse of the last", x.barge(3, 2), 100);
        dueNone("barge(4, 1)", () -> x.barge(4, 1));
        dueBarges(x, "00", -1);
    }

    static void lockKIsBetweenPlacesKAndOneMore() {
        LocksBySong x = hired(canal("aaaa1;aaaa2;aaaa3;aaaa4;aaaa5;aaaa6;aaaa7;aaaa8", times(4, "az0:0"), "00"), 0, 0, 3);
        dueRule(x, "n", 0);
        due("down from place 0", x.pass(0, 0), -2);
        for (int place = 0; place < 8; place++) {
            due("up from " + place, x.pass(0, 1), place + 1);
            due("place", x.barge(0, 0), place + 1);
            due("levels", x.count(6), (2 << place) - 1);
        }
        due("up from the last place", x.pass(0, 1), -2);
        for (int place = 8; place > 0; place--) {
            due("down from " + place, x.pass(0, 0), place);
            due("place", x.barge(0, 0), place - 1);
            due("levels", x.count(6), (1 << place - 1) - 1);
        }
        due("down from place 0", x.pass(0, 0), -2);
    }

    static void onePlaceMoreThanLocks() {
        for (int locks = 0; locks <= 8; locks++) {
            LocksBySong x = canal(locks == 0 ? "" : times(locks, "aaaa1"), times(4, "az0:0"), "00");
            hired(x, 0, 0, 3);
            due("journey to the last place", x.journey(0, locks) >= 0, true);
            due("hires to the last place", x.hires(0, locks), 0);
            due("rested to the last place", x.rested(0, locks), 0);
            due("journey behind it", x.journey(0, locks + 1), -1);
            due("hires behind it", x.hires(0, locks + 1), -1);
            due("rested behind it", x.rested(0, locks + 1), -1);
        }
    }

    static void heldOneToNine() {
        for (int held = 1; held <= 9; held++) {
            LocksBySong x = hired(canal("aaaa" + held, times(4, "az0:0"), "00"), 0, 0, 3);
            due("held", x.lock(0, 4), held);
            due("minutes", x.pass(0, 1), 2 * held);
        }
    }

    static void loadNoneToNine() {
        for (int load = 0; load <= 9; load++) {
            LocksBySong x = hired(canal("aaaa1", times(4, "az0:0"), "0" + load), 0, 0, 3);
            due("load", x.barge(0, 1), load);
            due("minutes", x.pass(0, 1), 2 + load);
        }
    }

    static void thePurseIsOneHundredAtFirst() {
        LocksBySong x = canal("aaaa1", "aa0:99;aa0:2;aa0:1;aa0:0;aa0:1", "00");
        due("purse", x.barge(0, 2), 100);
        due("a fee of 99", x.hire(0, 0), 1);
        due("a fee above it", x.hire(0, 1), -3);
        due("a fee as great", x.hire(0, 2), 0);
        due("a fee above none", x.hire(0, 4), -3);
        due("no fee", x.hire(0, 3), 0);
    }

    static void newOnesAreAsTheyAreAtFirst() {
        LocksBySong x = hired(canal("aaaa1", times(4, "az0:9"), "00"), 0, 0, 3);
        x.pass(0, 1);
        dueLocks(x, "bbbb1", 1);
        dueSingers(x, "az2:0", 1);
        dueBarges(x, "20", 1);
        due("level of a new lock", x.lock(1, 5), 0);
        due("tired of a new one", x.singer(4, 3), 0);
        due("barge of a new one", x.singer(4, 5), -1);
        due("place of a new one", x.singer(4, 4), 2);
        due("purse of a new barge", x.barge(1, 2), 100);
        due("crew of a new barge", x.barge(1, 3), 0);
        due("level of the other", x.lock(0, 5), 1);
        due("tired of the other", x.singer(0, 3), 1);
        due("purse of the other", x.barge(0, 2), 64);
        due("now", x.count(3), 2);
    }

    // ---- what one can sing

    static void oneSingsFromLowToHigh() {
        LocksBySong x = hired(canal("bbbb1;cccc1;dddd1;eeee1", times(4, "cd0:0"), "00"), 0, 0, 3);
        int[] want = {0, 1, 1, 0};
        for (int lock = 0; lock < 4; lock++) {
            due("sings " + lock, x.sings(0, lock), want[lock]);
        }
        LocksBySong y = hired(canal("aaaa1;zzzz1", times(4, "az0:0"), "00"), 0, 0, 3);
        due("the lowest note", y.sings(0, 0), 1);
        due("the highest note", y.sings(0, 1), 1);
    }

    static void highIsLessByTired() {
        LocksBySong x = hired(canal("dddd1;dddd1;cccc1;aaaa1", times(4, "ad0:0"), "00"), 0, 0, 3);
        due("at first", x.sings(0, 0), 1);
        due("pass", x.pass(0, 1), 2);
        int[] want = {0, 0, 1, 1};
        for (int lock = 0; lock < 4; lock++) {
            due("tired 1, sings " + lock, x.sings(0, lock), want[lock]);
        }
        x.rest(8);
        due("rested", x.sings(0, 0), 1);
    }

    static void lowStaysWhenTired() {
        LocksBySong x = hired(canal("bbbb1;bbbb1;aaaa1", times(4, "bc0:0"), "00"), 0, 0, 3);
        x.pass(0, 1);
        due("low", x.sings(0, 1), 1);
        due("below low", x.sings(0, 2), 0);
        x.pass(0, 1);
        due("high is below low", x.sings(0, 1), 0);
        due("no note of it is sung", x.lacks(0, 1), 0);
        dueRow(x, 0);
        due("low and high stay", 100 * x.singer(0, 0) + x.singer(0, 1), 102);
    }

    static void nineTimesTiredAndNoMore() {
        LocksBySong x = hired(canal("aaaa1", times(4, "aj0:0"), "00"), 0, 0, 3);
        for (int i = 1; i <= 12; i++) {
            due("pass " + i, x.pass(0, i % 2) > 0, true);
            due("tired", x.singer(0, 3), Math.min(9, i));
        }
        LocksBySong y = hired(canal("aaaa1", times(4, "ai0:0"), "00"), 0, 0, 3);
        for (int i = 1; i <= 9; i++) {
            due("pass " + i, y.pass(0, i % 2) > 0, true);
        }
        due("nine notes less than nine", y.pass(0, 0), -3);
        due("tired", y.count(8), 36);
    }

    static void fourUnlikeOnesEachANote() {
        LocksBySong x = canal("aaaa1;abcd1", times(4, "az0:0"), "00");
        for (int s = 0; s < 4; s++) {
            due(s + " sing one note", x.sings(0, 0), 0);
            due(s + " sing four notes", x.sings(0, 1), 0);
            x.hire(0, s);
        }
        due("four sing one note", x.sings(0, 0), 1);
        due("four sing four notes", x.sings(0, 1), 1);
        LocksBySong y = hired(canal("abcd1", "ab0:0;ab0:0;ab0:0;az0:0;az0:0", "00"), 0, 0, 3);
        due("three for two notes", y.sings(0, 0), 0);
        y.hire(0, 4);
        due("two for the others", y.sings(0, 0), 1);
    }

    static void noneOfTheNotesIsJammed() {
        LocksBySong x = hired(canal("adpz1", times(8, "az0:0"), "00"), 0, 0, 7);
        for (int note = 0; note < 26; note++) {
            x.set(1, 1 << note);
            boolean inChord = note == 0 || note == 3 || note == 15 || note == 25;
            due("jammed " + note, x.sings(0, 0), inChord ? 0 : 1);
        }
        x.set(1, (1 << 26) - 1 & ~(1 | 1 << 3 | 1 << 15 | 1 << 25));
        due("all others jammed", x.sings(0, 0), 1);
    }

    static void theLeastRowOfWhoSingsWhat() {
        LocksBySong x = hired(canal("aabc1", "cc0:0;ac0:0;aa0:0;ab0:0;bc0:0", "00"), 0, 0, 4);
        due("sings", x.sings(0, 0), 1);
        dueRow(x, 1, 2, 3, 0);
        LocksBySong y = hired(canal("abcd1", times(8, "ad0:0"), "00"), 0, 0, 7);
        due("sings", y.sings(0, 0), 1);
        dueRow(y, 0, 1, 2, 3);
        LocksBySong z = hired(canal("aaad1", "ad0:0;aa0:0;aa0:0;aa0:0", "00"), 0, 0, 3);
        due("the first is needed for the last note", z.sings(0, 0), 1);
        dueRow(z, 1, 2, 3, 0);
    }

    // ---- THE RULE

    /** A barge of load 7 with five singers ahead of a lock held 3: n 3, t 0, l 7, w 0, u 1, c 5. */
    private static LocksBySong ready() {
        return hired(canal("aaaa3;aaaa3", times(8, "az0:0"), "07"), 0, 0, 4);
    }

    private static void dueRules(Object... rulesAndMinutes) {
        for (int i = 0; i < rulesAndMinutes.length; i += 2) {
            dueMinutes(ready(), (String) rulesAndMinutes[i], (Integer) rulesAndMinutes[i + 1]);
        }
    }

    static void ruleAtFirst() {
        LocksBySong x = ready();
        due("n*2+l", x.pass(0, 1), 13);
        due("n*2+4/2+l", x.pass(0, 1), 15);
        due("n*2+8/2+l, no water first", x.pass(0, 0), 17);
        LocksBySong y = twoBarges("aaaa1");
        y.pass(0, 1);
        due("n*2+w*3", y.pass(1, 1), 5);
    }

    static void ruleAtFirstHasHalfOfTiredCut() {
        LocksBySong x = hired(canal("aaaa1;aaaa1", times(4, "az0:0") + ";az1:0", "00"), 0, 0, 3);
        due("tired 0", x.pass(0, 1), 2);
        x.leave(3);
        x.hire(0, 4);
        due("tired 3", x.pass(0, 1), 3);
        due("tired 7", x.pass(0, 0), 5);
    }

    static void ruleNumbersArePutTo1To99() {
        dueRules("0", 1, "000", 1, "1", 1, "2", 2, "98", 98, "99", 99, "100", 99, "999", 99, "-1", 1, "-999", 1, "1-1", 1, "0-99", 1);
    }

    static void ruleThings() {
        dueRules("n", 3, "t+1", 1, "l", 7, "w+1", 1, "u+1", 2, "c", 5, "m+1", 1);
        dueRules("n*n", 9, "l-n", 4, "c+c*l", 40, "999*u", 99, "n-u-u", 1);
    }

    static void ruleOrderOfBinding() {
        dueRules("2+3*4", 14, "3*4+2", 14, "20-6/2", 17, "(2+3)*4", 20, "2*(3+4)", 14);
        dueRules("5*(2<1+1)+2", 2, "5*(1+1<3)+2", 7, "5*(2*2=4)+2", 7, "5*(3-1>1)+2", 7, "5*(6=2*3)+2", 7, "5*(0-1<0)+2", 7);
        dueRules("5*(1>2-2)+2", 7, "9+(1<2)", 10, "9+1<2", 1, "2<9+1", 1, "(9+1<2)+4", 4, "(2<9+1)+4", 5);
    }

    static void ruleFromTheLeft() {
        dueRules("9-3-2", 4, "9-3+2", 8, "9+3-2", 10, "48/4/2", 6, "9/4*2", 4, "2*9/4", 4, "9*2/4*3", 12, "90-9*2-9/2-1", 67);
    }

    static void ruleComparisonsAre1Or0() {
        dueRules("5*(1<2)+2", 7, "5*(2<2)+2", 2, "5*(3<2)+2", 2);
        dueRules("5*(1>2)+2", 2, "5*(2>2)+2", 2, "5*(3>2)+2", 7);
        dueRules("5*(1=2)+2", 2, "5*(2=2)+2", 7, "5*(3=2)+2", 2);
        dueRules("9-(1<2)", 8, "9-(2<1)", 9, "5*((1<2)=1)+2", 7, "5*((2<1)=0)+2", 7, "5*(-2<-1)+2", 7, "5*(-1<-2)+2", 2);
    }

    static void ruleByNoneIsNone() {
        dueRules("5/0+7", 7, "0/0+7", 7, "-5/0+7", 7, "5/(3-3)*9+7", 7, "9/0/0+7", 7, "5/w+7", 7, "5/00+7", 7, "5/-0+7", 7);
    }

    static void ruleIsCutToNone() {
        dueRules("7/2", 3, "-7/2+9", 6, "7/-2+9", 6, "-7/-2+9", 12, "1/2+9", 9, "-1/2+9", 9, "99/100+9", 9, "-(7/2)+9", 6);
    }

    static void ruleMinusAheadOfAThing() {
        dueRules("-5+9", 4, "--5", 5, "---5+9", 4, "-(2-7)", 5, "2*-3+9", 3, "2--3", 5, "2---3+9", 8, "2+-1", 1, "-n+9", 6, "--n", 3);
        dueRules("-2*-3", 6, "-(-(-(-(8))))", 8, "9/-3+9", 6, "9-3", 6, "5*(1>-1)+2", 7, "5*-(1>2)+3", 3, "4*(1=--1)+1", 5);
        dueRules(repeat(38, "-") + "5", 5, repeat(39, "-") + "5", 1, "9+" + repeat(37, "-") + "5", 4);
    }

    static void ruleWrapsAsInts() {
        // 512*512*512*16 is 2 to the 31, which wraps to the least int; one less is the greatest.
        dueRules("512*512*512*16", 1, "512*512*512*16-1", 99, "512*512*512*8", 99, "-512*512*512*16", 1);
        dueRules("512*512*512*16/-1", 1, "512*512*512*16/-1-1", 99, "5*(512*512*512*16<0)+2", 7);
        dueRules("512*512*512*32+7", 7, "512*512*512*64/9+3", 3, "512*512*512*16*2+42", 42);
        dueRules("5*(512*512*512*16=-512*512*512*16)+2", 7, "5*(512*512*512*16-1>0)+2", 7);
        dueRules("999*999*999*999/-999/999/9", 47);
    }

    static void ruleBracketsInOneAnother() {
        dueRules("((((7))))", 7, "((((1)+1)+1)+1)", 4, "(9-(8-(7-(6))))", 2, "((((2))*3)+(((4))))", 10);
        dueRules("(2)*(3)*(4)", 24, "((1)+((1)+((1)+1)))*((2))", 8);
    }

    static void ruleTiredOfItsCrewTogether() {
        LocksBySong x = hired(canal("aaaa1;aaaa1", times(8, "az0:0"), "00"), 0, 0, 7);
        dueRule(x, "t", 0);
        x.set(0, 999);
        for (int i = 0; i < 9; i++) {
            x.pass(0, 1 - i % 2);
        }
        due("four nine times tired", x.journey(0, 2), 36);
        for (int s = 0; s < 4; s++) {
            x.leave(s);
        }
        due("those who left don't count", x.journey(0, 2), 1);
        for (int i = 0; i < 9; i++) {
            x.pass(0, i % 2);
        }
        for (int s = 0; s < 4; s++) {
            x.leave(s + 4);
        }
        due("nobody sings", x.pass(0, 1), -3);
        LocksBySong y = twoBarges("aaaa1;aaaa1");
        dueRule(y, "t+1", 0);
        due("barge 0", y.pass(0, 1), 1);
        due("barge 1, whose crew is fresh", y.pass(1, 1), 1);
        due("barge 0, its crew alone", y.pass(0, 1), 5);
    }

    static void ruleEightNineTimesTired() {
        LocksBySong x = hired(canal("aaaa1", times(8, "az0:0"), "00"), 0, 0, 3);
        x.set(0, 999);
        for (int i = 1; i <= 10; i++) {
            x.pass(0, i % 2);
        }
        for (int s = 0; s < 4; s++) {
            x.leave(s);
        }
        hired(x, 0, 4, 7);
        for (int i = 1; i <= 10; i++) {
            x.pass(0, i % 2);
        }
        hired(x, 0, 0, 3);
        due("tired of all", x.count(8), 72);
        dueMinutes(x, "t", 72);
        dueMinutes(x, "c", 8);
    }

    static void ruleWaterFirst() {
        LocksBySong x = twoBarges("aaaa1");
        dueRule(x, "w*50+1", 0);
        due("up a low lock", x.pass(0, 1), 1);
        due("up a high lock", x.pass(1, 1), 51);
        due("down a high lock", x.pass(0, 0), 1);
        due("down a low lock", x.pass(1, 0), 51);
    }

    static void ruleUp() {
        LocksBySong x = twoBarges("aaaa1");
        dueRule(x, "u*50+1", 0);
        due("up", x.pass(0, 1), 51);
        due("down", x.pass(0, 0), 1);
    }

    static void ruleHowManyItsCrewAre() {
        LocksBySong x = canal("aaaa1", times(8, "az0:0"), "00;00");
        dueRule(x, "c", 0);
        hired(x, 0, 0, 2);
        x.hire(1, 7);
        for (int s = 3; s < 7; s++) {
            x.hire(0, s);
            due("crew of " + (s + 1), x.journey(0, 1), s + 1);
        }
        x.leave(7);
        x.hire(0, 7);
        due("crew of 8", x.journey(0, 1), 8);
    }

    static void ruleNowBy60() {
        int[] now = {0, 1, 59, 60, 61, 119, 120, 599, 600};
        for (int minutes : now) {
            LocksBySong x = ready();
            x.rest(minutes);
            dueMinutes(x, "m+1", minutes % 60 + 1);
        }
    }

    // ---- passing

    /** What a barge pays in water, and where the level is then, from a level, with so much water. */
    private static void dueWater(int level, int up, int water, int cost, boolean first) {
        String place = up == 1 ? "0" : "1";
        LocksBySong x = canal("aaaa1", times(4, "az" + place + ":0") + ";" + times(4, "az0:0"), place + "0;00");
        hired(x, 0, 0, 3);
        hired(x, 1, 4, 7);
        dueRule(x, "w*50+1", 0);
        if (level == 1) {
            due("the level comes to 1", x.pass(1, 1), 1);
        }
        x.set(0, water);
        String way = "level " + level + ", up " + up + ", water " + water;
        if (cost > water) {
            due(way, x.pass(0, up), -4);
            due("water stays", x.count(4), water);
            due("level stays", x.count(6), level);
        } else {
            due(way, x.pass(0, up), first ? 51 : 1);
            due("water left", x.count(4), water - cost);
            due("level", x.count(6), up);
        }
    }

    static void passWater() {
        for (int water : new int[] {0, 1, 2, 999}) {
            dueWater(0, 1, water, 0, false);
            dueWater(1, 1, water, 1, true);
            dueWater(1, 0, water, 1, false);
            dueWater(0, 0, water, 1, true);
        }
    }

    static void passTiresThoseWhoSangAlone() {
        LocksBySong x = hired(canal("aaaa1", "bb0:0;" + times(7, "az0:0"), "00"), 0, 0, 5);
        x.pass(0, 1);
        int[] want = {0, 1, 1, 1, 1, 0, 0, 0};
        for (int s = 0; s < 8; s++) {
            due("tired " + s, x.singer(s, 3), want[s]);
        }
    }

    static void passLetsNobodyRest() {
        LocksBySong x = twoBarges("aaaa1;aaaa1;aaaa1");
        dueRule(x, "10", 0);
        x.pass(0, 1);
        due("now", x.count(3), 10);
        due("tired", x.count(8), 4);
        dueRule(x, "99", 0);
        x.pass(1, 1);
        due("now", x.count(3), 109);
        due("tired", x.count(8), 8);
        x.rest(1);
        due("the next multiple of 10", x.count(8), 0);
    }

    static void waterNowAndJammedAtFirst() {
        LocksBySong x = new LocksBySong();
        due("water", x.count(4), 20);
        due("now", x.count(3), 0);
        due("jammed", x.count(5), 0);
    }

    // ---- fractions

    static void noneIsToldAs0By1() {
        for (int n = 1; n <= 4; n++) {
            LocksBySong x = new LocksBySong();
            due("opens", x.opens(n, 10), 0);
            dueRow(x, 0, 1);
        }
    }
}
