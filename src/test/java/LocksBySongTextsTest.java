/** The bounds of texts: which signs can stand where, where a text must end, and how long it may be. */
public final class LocksBySongTextsTest extends Checks {
    public static void main(String[] args) {
        runAll(LocksBySongTextsTest.class);
    }

    private interface Reader {
        int read(LocksBySong x);
    }

    private static final String THINGS = "0~9ntlwucm";

    private static LocksBySong threeLocks() {
        return canal("aaaa1;aaaa1;aaaa1", "", "");
    }

    /**
     * Tries all 256 signs behind a start: with some the text is right, with some it ends too early,
     * any other is the fault itself. A span is written a~z; first is the answer for a fault at 0.
     */
    private static void dueSigns(Reader reader, int first, String start, String right, String early) {
        int at = start.length();
        for (int sign = 0; sign < 256; sign++) {
            LocksBySong x = threeLocks();
            String text = start + (char) sign;
            int got = reader.read(write(x, text));
            if (isNamed(right, sign)) {
                due("sign " + sign + " ends " + start + " well, it answered " + got, got >= 0, true);
            } else {
                due("sign " + sign + " behind " + start, got, first - at - (isNamed(early, sign) ? 1 : 0));
            }
            dueText(x, text);
        }
    }

    private static boolean isNamed(String signs, int sign) {
        for (int i = 0; i < signs.length(); i++) {
            boolean span = i + 2 < signs.length() && signs.charAt(i + 1) == '~';
            if (sign >= signs.charAt(i) && sign <= signs.charAt(span ? i + 2 : i)) {
                return true;
            }
            i += span ? 2 : 0;
        }
        return false;
    }

    // ---- promise 2

    static void p02_eightySignsFit() {
        LocksBySong x = new LocksBySong();
        for (int i = 1; i <= 20; i++) {
            due("sign", x.sign(0x72723030), 4 * i);
        }
        due("signs", x.count(12), 80);
    }

    static void p02_aTextOf77to80TakesNoMore() {
        for (int size = 76; size <= 80; size++) {
            LocksBySong x = new LocksBySong();
            write(x, repeat(size, "a"));
            due("sign behind " + size, x.sign(0x61616161), size == 76 ? 80 : -1);
            due("signs", x.count(12), size == 76 ? 80 : size);
        }
    }

    static void p02_aRefusedSignLeavesTheText() {
        LocksBySong x = new LocksBySong();
        write(x, "aceg5" + repeat(75, "x"));
        due("sign beyond 80", x.sign(0x62626262), -1);
        x.end(5);
        due("locks", x.locks(), 1);
        due("the last note", x.lock(0, 3), 6);
    }

    static void p02_theHighestByteComesFirst() {
        LocksBySong x = new LocksBySong();
        x.sign('a' << 24 | 'c' << 16 | 'f' << 8 | 'z');
        x.sign('7' << 24);
        x.end(5);
        due("locks", x.locks(), 1);
        int[] want = {0, 2, 5, 25, 7};
        for (int what = 0; what < 5; what++) {
            due("lock(0, " + what + ")", x.lock(0, what), want[what]);
        }
    }

    static void p02_anyIntIsFourSigns() {
        for (int v : new int[] {LEAST, -1, 0, 1, GREATEST, 0x80616161, 0xff616161}) {
            LocksBySong x = new LocksBySong();
            due("sign " + v, x.sign(v), 4);
            due("the first of " + v + " is no note", x.locks(), -1);
        }
        LocksBySong y = new LocksBySong();
        y.sign(0x616161ff);
        due("the fourth sign is 255", y.locks(), -4);
        y.sign(0x61616180);
        due("the fourth sign is 128", y.locks(), -4);
        y.sign(0x6161e161);
        due("no sign is cut to seven bits", y.locks(), -3);
    }

    static void p02_signsComeBehindTheCut() {
        LocksBySong x = new LocksBySong();
        write(x, "aax");
        x.end(2);
        due("sign", x.sign(0x6262333b), 6);
        x.end(5);
        due("locks", x.locks(), 1);
        due("the third note", x.lock(0, 2), 1);
    }

    // ---- promise 3

    static void p03_endsFromNoneToAll() {
        for (int n = 0; n <= 4; n++) {
            LocksBySong x = new LocksBySong();
            x.sign(0x61626364);
            due("end(" + n + ")", x.end(n), true);
            due("signs", x.count(12), n);
            due("end one more", x.end(n + 1), false);
            due("signs", x.count(12), n);
        }
    }

    static void p03_notSoManyOrBelowNone() {
        LocksBySong x = new LocksBySong();
        due("end(0) of an empty text", x.end(0), true);
        due("end(1) of an empty text", x.end(1), false);
        write(x, repeat(80, "a"));
        for (int n : new int[] {LEAST, -80, -1, 81, 84, GREATEST}) {
            due("end(" + n + ")", x.end(n), false);
            due("signs", x.count(12), 80);
        }
        due("end(80)", x.end(80), true);
        due("end(79)", x.end(79), true);
        due("signs", x.count(12), 79);
    }

    static void p03_theFirstSignsAreKept() {
        LocksBySong x = new LocksBySong();
        write(x, "aaaa1;bbbb2;");
        x.end(11);
        due("locks", x.locks(), 2);
        due("held", x.lock(1, 4), 2);
    }

    // ---- promise 4

    static void p04_whichSignsCanStand() {
        Reader locks = LocksBySong::locks;
        dueSigns(locks, -1, "", "", "a~z");
        dueSigns(locks, -1, "c", "", "c~z");
        dueSigns(locks, -1, "cf", "", "f~z");
        dueSigns(locks, -1, "cff", "", "f~z");
        dueSigns(locks, -1, "zzz", "", "z");
        dueSigns(locks, -1, "cffy", "1~9", "");
        dueSigns(locks, -1, "cffy3", "", ";");
        dueSigns(locks, -1, "cffy3;", "", "a~z");
        dueSigns(locks, -1, "cffy3;b", "", "b~z");
    }

    static void p04_anEmptyTextTellsNothing() {
        dueLocks(new LocksBySong(), "", 0);
        dueLocks(full(), "", 0);
    }

    static void p04_aNoteBelowTheOneAhead() {
        LocksBySong x = new LocksBySong();
        dueLocks(x, "baaa1", -2);
        dueLocks(x, "abab1", -3);
        dueLocks(x, "abca1", -4);
        dueLocks(x, "zzzy1", -4);
        dueLocks(x, "aaaa1;baaa1", -8);
        dueLocks(x, "bbbb1;aaaa1", 2);
    }

    static void p04_47Signs() {
        dueLocks(new LocksBySong(), times(8, "aaaa1"), 8);
        dueLocks(new LocksBySong(), times(7, "aaaa1") + ";aaaa", -47);
        for (String more : new String[] {";", "1", "x", ";aaaa1", ";" + repeat(32, "?")}) {
            dueLocks(new LocksBySong(), times(8, "aaaa1") + more, -48);
        }
    }

    static void p04_moreThan47SignsWithAnEarlierFault() {
        dueLocks(new LocksBySong(), times(7, "aaaa1") + ";aaaa0" + ";aaaa1", -47);
        dueLocks(new LocksBySong(), "aaaa1;aaaA1;" + times(8, "aaaa1"), -10);
        dueLocks(new LocksBySong(), repeat(80, "a"), -5);
        dueLocks(new LocksBySong(), "!" + repeat(79, "a"), -1);
    }

    static void p04_theFirstSignOfALineWithoutRoom() {
        for (int had = 1; had <= 8; had++) {
            LocksBySong x = new LocksBySong();
            dueLocks(x, times(had, "aaaa1"), had);
            int room = 8 - had;
            String fits = room == 0 ? "" : times(room, "bbbb2") + ";";
            for (String line : new String[] {"aaaa1", "aa", "?", "aaaa1;aaaa1"}) {
                dueLocks(x, fits + line, -1 - 6 * room);
            }
            if (room > 0) {
                dueLocks(x, fits, -1 - 6 * room);
                dueLocks(x, times(room, "bbbb2"), room);
            }
            due("there", x.count(0), 8);
        }
    }

    static void p04_moreThan47SignsWithoutRoomForALine() {
        LocksBySong x = canal("aaaa1", "", "");
        dueLocks(x, times(13, "aaaa1"), -43);
        LocksBySong y = canal(times(8, "aaaa1"), "", "");
        dueLocks(y, times(13, "aaaa1"), -1);
    }

    static void p04_nothingComesIfALineCannot() {
        LocksBySong x = new LocksBySong();
        dueLocks(x, "cdef2;aaaa0", -11);
        due("none came", x.count(0), 0);
        dueNone("lock(0, 0)", () -> x.lock(0, 0));
        dueLocks(x, "bbbb7", 1);
        due("the first note", x.lock(0, 0), 1);
        due("held", x.lock(0, 4), 7);
        due("level", x.lock(0, 5), 0);
        dueLocks(x, "cdef2;aaaa0", -11);
        due("held stays", x.lock(0, 4), 7);
    }

    // ---- promise 5

    static void p05_whichSignsCanStand() {
        Reader singers = LocksBySong::singers;
        dueSigns(singers, -1, "", "", "a~z");
        dueSigns(singers, -1, "c", "", "c~z");
        dueSigns(singers, -1, "z", "", "z");
        dueSigns(singers, -1, "cc", "", "0~3");
        dueSigns(singers, -1, "cc3", "", ":");
        dueSigns(singers, -1, "cc3:", "0~9", "");
        dueSigns(singers, -1, "cc3:0", "0~9", ";");
        dueSigns(singers, -1, "cc3:00", "", ";");
        dueSigns(singers, -1, "cc3:9;", "", "a~z");
        dueSigns(singers, -1, "cc3:9;b", "", "b~z");
    }

    static void p05_anEmptyTextTellsNothing() {
        dueSingers(new LocksBySong(), "", 0);
        dueSingers(full(), "", 0);
    }

    static void p05_aDigitOfNoPlace() {
        for (int locks = 0; locks <= 8; locks++) {
            LocksBySong x = canal(locks == 0 ? "" : times(locks, "aaaa1"), "", "");
            dueSingers(x, "aa" + (locks + 1) % 10 + ":0", -3);
            dueSingers(x, "aa0:0;aa" + (locks + 1) + ":0", -9);
            dueSingers(x, "aa" + locks + ":0", 1);
            due("place", x.singer(0, 4), locks);
        }
    }

    static void p05_highBelowLow() {
        LocksBySong x = new LocksBySong();
        dueSingers(x, "ba0:0", -2);
        dueSingers(x, "zy0:0", -2);
        dueSingers(x, "aa0:0;ba0:0", -8);
        dueSingers(x, "aa0:0;zz0:0;az0:0", 3);
        due("high as low", x.singer(1, 1), 25);
        due("low", x.singer(1, 0), 25);
    }

    static void p05_feesOfOneAndTwoDigits() {
        String[] fees = {"0", "9", "00", "09", "10", "99"};
        int[] want = {0, 9, 0, 9, 10, 99};
        for (int i = 0; i < fees.length; i++) {
            LocksBySong x = new LocksBySong();
            dueSingers(x, "az0:" + fees[i], 1);
            dueFees(x, want[i]);
        }
        dueSingers(new LocksBySong(), "az0:", -5);
        dueSingers(new LocksBySong(), "az0:;az0:1", -5);
        dueSingers(new LocksBySong(), "az0:100", -7);
        dueSingers(new LocksBySong(), "az0:-1", -5);
    }

    static void p05_theLongestText() {
        LocksBySong x = new LocksBySong();
        dueSingers(x, times(8, "az0:99"), 8);
        dueSingers(new LocksBySong(), times(8, "az0:99") + "9", -56);
        dueSingers(new LocksBySong(), times(8, "az0:99") + ";", -57);
        dueSingers(new LocksBySong(), times(8, "az0:99") + ";az0:99", -57);
        dueSingers(new LocksBySong(), times(9, "az0:9"), -49);
        // More than 63 signs can't be right up to there, so that the earlier fault is told.
        dueSingers(new LocksBySong(), times(8, "az0:99") + ";" + repeat(24, "?"), -57);
        dueSingers(new LocksBySong(), times(13, "az0:9"), -49);
    }

    static void p05_theFirstSignOfALineWithoutRoom() {
        for (int had = 1; had <= 8; had++) {
            LocksBySong x = new LocksBySong();
            dueSingers(x, times(had, "aa0:1"), had);
            int room = 8 - had;
            String fits = room == 0 ? "" : times(room, "bb0:22") + ";";
            for (String line : new String[] {"aa0:1", "a", "?", "aa0:1;aa0:1"}) {
                dueSingers(x, fits + line, -1 - 7 * room);
            }
            if (room > 0) {
                dueSingers(x, fits, -1 - 7 * room);
                dueSingers(x, times(room, "bb0:22"), room);
            }
            due("there", x.count(1), 8);
        }
    }

    static void p05_nothingComesIfALineCannot() {
        LocksBySong x = new LocksBySong();
        dueSingers(x, "bd0:7;bd0:x", -11);
        dueNone("singer(0, 0)", () -> x.singer(0, 0));
        due("free ones", x.count(7), 0);
        dueSingers(x, "cd0:8", 1);
        dueSingers(x, "ee0:1;ba0:1", -8);
        due("low", x.singer(0, 0), 2);
        dueFees(x, 8);
    }

    // ---- promise 6

    static void p06_whichSignsCanStand() {
        Reader barges = LocksBySong::barges;
        dueSigns(barges, -1, "", "", "0~3");
        dueSigns(barges, -1, "3", "0~9", "");
        dueSigns(barges, -1, "30", "", ";");
        dueSigns(barges, -1, "30;", "", "0~3");
        dueSigns(barges, -1, "30;0", "0~9", "");
    }

    static void p06_anEmptyTextTellsNothing() {
        dueBarges(new LocksBySong(), "", 0);
        dueBarges(full(), "", 0);
    }

    static void p06_aDigitOfNoPlace() {
        for (int locks = 0; locks <= 8; locks++) {
            LocksBySong x = canal(locks == 0 ? "" : times(locks, "aaaa1"), "", "");
            dueBarges(x, locks + 1 + "0", -1);
            dueBarges(x, "00;" + (locks + 1) + "0", -4);
            dueBarges(x, locks + "9", 1);
            due("place", x.barge(0, 0), locks);
            due("load", x.barge(0, 1), 9);
        }
    }

    static void p06_11Signs() {
        dueBarges(new LocksBySong(), "00;00;00;00", 4);
        dueBarges(new LocksBySong(), "00;00;00;0", -11);
        for (String more : new String[] {";", "0", "x", ";00", ";" + repeat(68, "0")}) {
            dueBarges(new LocksBySong(), "00;00;00;00" + more, -12);
        }
        dueBarges(new LocksBySong(), "00;00;00;0x;00", -11);
        dueBarges(new LocksBySong(), repeat(80, "0"), -3);
    }

    static void p06_theFirstSignOfALineWithoutRoom() {
        for (int had = 1; had <= 4; had++) {
            LocksBySong x = new LocksBySong();
            dueBarges(x, times(had, "01"), had);
            int room = 4 - had;
            String fits = room == 0 ? "" : times(room, "02") + ";";
            for (String line : new String[] {"00", "0", "?", "00;00;00;00"}) {
                dueBarges(x, fits + line, -1 - 3 * room);
            }
            if (room > 0) {
                dueBarges(x, fits, -1 - 3 * room);
                dueBarges(x, times(room, "02"), room);
            }
            due("there", x.count(2), 4);
        }
    }

    static void p06_nothingComesIfALineCannot() {
        LocksBySong x = new LocksBySong();
        dueBarges(x, "07;0x", -5);
        dueNone("barge(0, 0)", () -> x.barge(0, 0));
        dueBarges(x, "03", 1);
        dueBarges(x, "05;10", -4);
        due("load", x.barge(0, 1), 3);
    }

    // ---- promise 7

    static void p07_whichSignsCanBegin() {
        for (String start : new String[] {"", "n+", "n-", "n*", "n/", "n<", "n>", "n=", "-", "--", "n<n+", "n+-"}) {
            dueSigns(LocksBySong::rule, -1, start, THINGS, "-(");
        }
        for (String start : new String[] {"(", "((", "(((", "(n<", "((((n)+"}) {
            dueSigns(LocksBySong::rule, -1, start, "", "-(" + THINGS);
        }
    }

    static void p07_whichSignsCanStandBehindAThing() {
        for (String start : new String[] {"n", "t", "l", "w", "u", "c", "m", "(n)", "999", "-n", "(n<n)"}) {
            dueSigns(LocksBySong::rule, -1, start, "", "+-*/<>=");
        }
        for (String start : new String[] {"0", "12"}) {
            dueSigns(LocksBySong::rule, -1, start, "0~9", "+-*/<>=");
        }
        dueSigns(LocksBySong::rule, -1, "(n", ")", "+-*/<>=");
        dueSigns(LocksBySong::rule, -1, "(12", ")", "+-*/<>=0~9");
        dueSigns(LocksBySong::rule, -1, "(123", ")", "+-*/<>=");
        dueSigns(LocksBySong::rule, -1, "((n)", ")", "+-*/<>=");
    }

    static void p07_noComparisonBehindAnother() {
        for (String start : new String[] {"n<n", "n>n", "n=n", "n<(n<n)", "n<n+n", "n=999", "(n<n)<n"}) {
            dueSigns(LocksBySong::rule, -1, start, "", "+-*/");
        }
        dueSigns(LocksBySong::rule, -1, "(n<n", ")", "+-*/");
        dueRule(new LocksBySong(), "(1<2)<(2<3)", 0);
        dueRule(new LocksBySong(), "(1<2)+(2<3)", 0);
        dueRule(new LocksBySong(), "1<2+(2<3)", 0);
        dueRule(new LocksBySong(), "1<2+3<4", -6);
    }

    static void p07_numbersOfOneToThreeDigits() {
        for (String number : new String[] {"0", "9", "00", "99", "000", "999"}) {
            dueRule(new LocksBySong(), number, 0);
        }
        dueRule(new LocksBySong(), "1000", -4);
        dueRule(new LocksBySong(), "0000", -4);
        dueRule(new LocksBySong(), "n+1234*2", -6);
    }

    static void p07_fourBracketsInOneAnother() {
        for (int deep = 1; deep <= 6; deep++) {
            String text = repeat(deep, "(") + "n" + repeat(deep, ")");
            dueRule(new LocksBySong(), text, deep <= 4 ? 0 : -5);
        }
        dueRule(new LocksBySong(), "(((((", -5);
        dueRule(new LocksBySong(), "((((", -5);
        dueRule(new LocksBySong(), "((((-(1)))))", -6);
        dueRule(new LocksBySong(), "((((1))))+((((1))))*((((1))))", 0);
        dueRule(new LocksBySong(), "((((1)+(((1", -9);
        dueRule(new LocksBySong(), "(((1)+(1)))-(1)*(1)/(1)+(1)+(1)", 0);
        dueRule(new LocksBySong(), "1)", -2);
        dueRule(new LocksBySong(), "(1))", -4);
    }

    static void p07_itsEndIfItEndsTooEarly() {
        String[] texts = {"-", "n+", "n<", "(", "(n", "((n)", "n*-", "(n<", repeat(40, "-"), "1+" + repeat(38, "-")};
        for (String text : texts) {
            dueRule(new LocksBySong(), text, -1 - text.length());
        }
    }

    static void p07_40Signs() {
        String ones = "1" + repeat(19, "+1");
        dueRule(new LocksBySong(), ones, 0);
        dueRule(new LocksBySong(), ones + "1", 0);
        dueRule(new LocksBySong(), repeat(39, "-") + "n", 0);
        dueRule(new LocksBySong(), ones + "+", -41);
        for (String more : new String[] {"11", "1+", "1n", "1?", "++", "+(", "+1", "12" + repeat(39, "?")}) {
            dueRule(new LocksBySong(), ones + more, -41);
        }
        dueRule(new LocksBySong(), "(" + ones, -41);
        dueRule(new LocksBySong(), "(" + ones + ")", -41);
        dueRule(new LocksBySong(), repeat(80, "-"), -41);
        dueRule(new LocksBySong(), repeat(79, "-") + "n", -41);
    }

    static void p07_moreThan40SignsWithAnEarlierFault() {
        String ones = "1" + repeat(18, "+1");
        dueRule(new LocksBySong(), ones + "+?+1+1", -39);
        dueRule(new LocksBySong(), ones + "++1+1", -39);
        dueRule(new LocksBySong(), ones + "+1)+1", -40);
        dueRule(new LocksBySong(), ones + "1+(+1", -41);
        dueRule(new LocksBySong(), ones + "11?", -40);
    }

    static void p07_anEmptyTextIsNoRule() {
        LocksBySong x = hired(usual(), 0, 0, 3);
        dueMinutes(x, "7", 7);
        dueMinutes(x, "", 8);
    }

    static void p07_aFaultLeavesTheRule() {
        LocksBySong x = hired(usual(), 0, 0, 3);
        due("the rule at first", x.journey(0, 1), 8);
        dueRule(x, "55+", -4);
        due("the rule at first", x.journey(0, 1), 8);
        dueMinutes(x, "7+n", 10);
        for (String text : new String[] {"?", "55+", "5?", "1+1+1+1+1+1+1+1+1+1+1+1+1+1+1+1+1+1+1+1+1+1", "(5", "5<5<5"}) {
            due("rule " + text + " is refused", write(x, text).rule() < 0, true);
            due("the rule stays", x.journey(0, 1), 10);
        }
    }

    // ---- promise 17

    static void p17_whichSignsCanStand() {
        Reader day = LocksBySong::day;
        dueSigns(day, -1, "", "", "hludr");
        dueSigns(day, -1, "h", "", "0~9");
        for (String start : new String[] {"h0", "l", "u", "d", "r", "r1;u"}) {
            dueSigns(day, -1, start, "0~9", "");
        }
        for (String start : new String[] {"r1", "r12", "u0;r1"}) {
            dueSigns(day, -1, start, "0~9", ";");
        }
        for (String start : new String[] {"h00", "l0", "u9", "d0", "r123", "r1;l7"}) {
            dueSigns(day, -1, start, "", ";");
        }
        dueSigns(day, -1, "r1;", "", "hludr");
    }

    static void p17_anEmptyTextTellsNothing() {
        for (LocksBySong x : new LocksBySong[] {new LocksBySong(), full()}) {
            dueDay(x, "", 0);
            dueRow(x, 0, 0);
            due("nothing to undo", x.count(10), 0);
        }
    }

    static void p17_60Signs() {
        String sixty = "r10;" + times(19, "r1");
        LocksBySong x = new LocksBySong();
        dueDay(x, sixty, 20);
        due("now", x.count(3), 29);
        dueDay(x, times(20, "r1"), 20);
        due("now", x.count(3), 49);
        dueDay(x, times(12, "r600"), 12);
        due("now", x.count(3), 7249);
        for (String more : new String[] {";", "0", "x", ";r1", ";" + repeat(19, "?")}) {
            dueDay(x, sixty + more, -61);
        }
        dueDay(x, times(20, "r1") + ";", -61);
        dueDay(x, times(20, "r1") + "0;r1", -61);
        dueDay(x, times(20, "r1") + ";r", -61);
        due("nothing was done", x.count(3), 7249);
        due("three can be undone", x.count(10), 3);
    }

    static void p17_moreThan60SignsWithAnEarlierFault() {
        LocksBySong x = new LocksBySong();
        dueDay(x, "r1;" + repeat(77, "?"), -4);
        dueDay(x, times(19, "r1") + ";ra;r1;r1", -59);
        dueDay(x, times(20, "r1") + "?;r1", -60);
        dueDay(x, repeat(80, "r"), -2);
        due("nothing was done", x.count(3), 0);
    }

    static void p17_nothingIsDoneIfASignCannotStand() {
        LocksBySong x = usual();
        dueDay(x, "h00;r5;h01;x", -12);
        dueDay(x, "h00;r5;h0", -10);
        dueDay(x, "h00;r5;", -8);
        due("now", x.count(3), 0);
        due("free", x.count(7), 15);
        due("nothing to undo", x.count(10), 0);
    }

    static void p17_restsOfOneToThreeDigits() {
        LocksBySong x = new LocksBySong();
        dueDay(x, "r0;r00;r000;r9;r09;r009;r600", 7);
        due("now", x.count(3), 627);
        dueDay(x, "r601", 0);
        dueRow(x, 1, 0);
        dueDay(x, "r999", 0);
        dueDay(x, "r1000", -5);
        due("now", x.count(3), 627);
    }

    // ---- promise 27

    static void p27_whichSignsCanStand() {
        for (int many = 0; many < 14; many++) {
            dueSigns((x) -> x.queue(2), -2, repeat(many, "d"), "ud", "");
        }
        dueSigns((x) -> x.queue(0), -2, repeat(14, "u"), "", "");
    }

    static void p27_itsEndForNone() {
        LocksBySong x = twoBarges("aaaa1");
        dueQueue(x, "", -2);
    }

    static void p27_oneToFourteen() {
        LocksBySong x = twoBarges("aaaa1");
        dueQueue(x, "u", 0);
        dueQueue(x, repeat(14, "u"), 13);
        due("numbers", x.count(11), 15);
        dueQueue(x, repeat(14, "d"), 14);
        dueQueue(x, repeat(15, "u"), -16);
        dueQueue(x, repeat(14, "u") + "x", -16);
        dueQueue(x, repeat(80, "u"), -16);
        dueQueue(x, repeat(13, "u") + "x" + repeat(66, "u"), -15);
        dueQueue(x, repeat(13, "u") + "x", -15);
    }

    static void p27_noSuchLockIsAskedFirst() {
        for (int lock : new int[] {LEAST, -1, 1, 8, GREATEST}) {
            for (String text : new String[] {"", "u", "x", repeat(15, "u")}) {
                LocksBySong x = twoBarges("aaaa1");
                due("queue(" + lock + ") of " + text, write(x, text).queue(lock), -1);
                dueText(x, text);
            }
        }
        LocksBySong y = new LocksBySong();
        due("no locks", write(y, "u").queue(0), -1);
        LocksBySong z = full();
        due("the last lock", write(z, "u").queue(7), 0);
        due("behind it", write(z, "u").queue(8), -1);
    }
}
