import java.lang.reflect.InvocationTargetException;
import java.lang.reflect.Method;
import java.lang.reflect.Modifier;
import java.util.ArrayList;
import java.util.Arrays;
import java.util.Collections;
import java.util.List;
import java.util.NoSuchElementException;

/** What the tests of the project share: checks, texts, and canals to begin with. */
class Checks {
    static final int LEAST = Integer.MIN_VALUE;
    static final int GREATEST = Integer.MAX_VALUE;
    static int wrong = 0;
    static String about = "";

    interface Call {
        long answer();
    }

    /** Runs all methods of a test that take nothing, each one named as the sentence that it tests. */
    static void runAll(Class<?> test) {
        Method[] methods = test.getDeclaredMethods();
        Arrays.sort(methods, (a, b) -> a.getName().compareTo(b.getName()));
        int ran = 0;
        for (Method m : methods) {
            boolean sentence = Modifier.isStatic(m.getModifiers()) && m.getParameterCount() == 0 && m.getReturnType() == void.class;
            if (sentence && !m.isSynthetic()) {
                ran++;
                run(m);
            }
        }
        report(ran + " sentences hold");
    }

    private static void run(Method m) {
        about = m.getName();
        try {
            m.setAccessible(true);
            m.invoke(null);
        } catch (InvocationTargetException e) {
            fail("threw " + e.getCause());
        } catch (IllegalAccessException e) {
            fail("can't be run");
        }
    }

    static void report(String fine) {
        System.out.println(wrong == 0 ? fine : wrong + " answers are not as due");
        if (wrong != 0) {
            System.exit(1);
        }
    }

    static void fail(String why) {
        wrong++;
        System.out.println(about + ": " + why);
    }

    static void due(String call, long got, long want) {
        if (got != want) {
            fail(call + " answered " + got + ", due is " + want);
        }
    }

    static void due(String call, boolean got, boolean want) {
        due(call, got ? 1 : 0, want ? 1 : 0);
    }

    static List<Long> row(LocksBySong x) {
        List<Long> got = new ArrayList<>();
        for (int i = 0; i < x.count(11); i++) {
            got.add(x.row(i));
        }
        return got;
    }

    static void dueRow(LocksBySong x, long... want) {
        List<Long> list = new ArrayList<>();
        Arrays.stream(want).forEach(list::add);
        List<Long> got = row(x);
        if (!got.equals(list)) {
            fail("the row is " + got + ", due is " + list);
        }
    }

    static boolean throwsNoSuchElement(Call asked) {
        try {
            asked.answer();
            return false;
        } catch (NoSuchElementException e) {
            return true;
        }
    }

    static void dueNone(String call, Call asked) {
        due(call + " throws NoSuchElementException", throwsNoSuchElement(asked), true);
    }

    static LocksBySong write(LocksBySong x, String text) {
        x.end(0);
        for (int i = 0; i < text.length(); i += 4) {
            int v = 0;
            for (int k = 0; k < 4; k++) {
                v = v << 8 | (i + k < text.length() ? text.charAt(i + k) : 0);
            }
            x.sign(v);
        }
        due("end of the text " + text, x.end(text.length()), true);
        return x;
    }

    static LocksBySong canal(String locks, String singers, String barges) {
        LocksBySong x = new LocksBySong();
        due("locks " + locks, write(x, locks).locks() >= 0, true);
        due("singers " + singers, write(x, singers).singers() >= 0, true);
        due("barges " + barges, write(x, barges).barges() >= 0, true);
        return x;
    }

    /** Two locks, four singers, none hired, and a barge at place 0. */
    static LocksBySong usual() {
        return canal("acef3;bdgi2", "ad0:5;cf0:7;eh0:9;fz0:20", "02");
    }

    /** As much as there is room for: eight locks, eight singers at place 0, four barges at place 0. */
    static LocksBySong full() {
        return canal(times(8, "aaaa1"), times(8, "az0:0"), times(4, "00"));
    }

    /** Two barges at place 0 with four singers each that sing all notes for nothing. */
    static LocksBySong twoBarges(String locks) {
        LocksBySong x = canal(locks, times(8, "az0:0"), "00;00");
        hired(x, 0, 0, 3);
        return hired(x, 1, 4, 7);
    }

    static LocksBySong hired(LocksBySong x, int barge, int first, int last) {
        for (int s = first; s <= last; s++) {
            due("hire", x.hire(barge, s) >= 0, true);
        }
        return x;
    }

    static String times(int many, String line) {
        return String.join(";", Collections.nCopies(many, line));
    }

    static String repeat(int many, String part) {
        return String.join("", Collections.nCopies(many, part));
    }

    static void dueText(LocksBySong x, String text) {
        due("the text behind " + text, x.count(12), 0);
    }

    static void dueLocks(LocksBySong x, String text, int want) {
        int had = x.count(0);
        due("locks " + text, write(x, text).locks(), want);
        due("locks there", x.count(0), had + Math.max(0, want));
        dueText(x, text);
    }

    static void dueSingers(LocksBySong x, String text, int want) {
        int had = x.count(1);
        due("singers " + text, write(x, text).singers(), want);
        due("singers there", x.count(1), had + Math.max(0, want));
        dueText(x, text);
    }

    static void dueBarges(LocksBySong x, String text, int want) {
        int had = x.count(2);
        due("barges " + text, write(x, text).barges(), want);
        due("barges there", x.count(2), had + Math.max(0, want));
        dueText(x, text);
    }

    static void dueRule(LocksBySong x, String text, int want) {
        due("rule " + text, write(x, text).rule(), want);
        dueText(x, text);
    }

    /** What journey() of one lock takes by a rule. */
    static void dueMinutes(LocksBySong x, String text, int want) {
        dueRule(x, text, 0);
        due("minutes by " + text, x.journey(0, 1), want);
    }

    static void dueDay(LocksBySong x, String text, int want) {
        due("day " + text, write(x, text).day(), want);
        dueText(x, text);
    }

    static void dueQueue(LocksBySong x, String text, int want) {
        due("queue " + text, write(x, text).queue(0), want);
        dueText(x, text);
    }

    static void dueFees(LocksBySong x, int... want) {
        for (int s = 0; s < want.length; s++) {
            due("fee of " + s, x.singer(s, 2), want[s]);
        }
    }
}
