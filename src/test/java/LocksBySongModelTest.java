import java.util.ArrayList;
import java.util.Arrays;
import java.util.List;

/**
 * Random runs of calls, each answer compared with that of a model that tries everything out: short ones
 * in which all of the state is looked at behind each call, and long ones of 512 calls in which later
 * calls alone show what earlier ones left.
 */
public final class LocksBySongModelTest {
    private static final int SHORT_RUNS = 4000;
    private static final int LONG_RUNS = 1500;
    /** Its name, how often it comes, and the greatest arguments of use (-1: any); more comes seldom. */
    private static final String[] CALLS = {
        "sign 1 -1", "end 1 80", "locks 1", "singers 1", "barges 1", "rule 3", "lock 1 3 5", "singer 1 8 5", "barge 1 2 3",
        "set 2 1 5", "sheet 1 3 8 -1 -1", "hire 4 1 7", "leave 2 8", "pass 8 1 1", "rest 2 60", "day 4", "undo 3",
        "sings 2 0 3", "lacks 2 0 3", "spoils 3 0 3", "shift 2 0 3", "voices 2 0 3", "journey 4 0 4", "hires 3 0 4",
        "rested 3 0 4", "queue 2 2", "jams 2", "heard 3 25 1", "forget 1", "who 1", "listen 1", "parts 1", "opens 1 4 10",
        "tries 1 10 100", "rests 1 9", "pays 3 0 3", "days 3 -1 60", "keep 2 2", "again 2 2", "count 5 12", "row 5 4"};
    /** In short runs these are part of the state that is looked at. */
    private static final int LOOKS = 2;
    private static final List<Integer> OFTEN = new ArrayList<>();
    private static final long[] ANSWERS = new long[CALLS.length];
    private static final long[] GOOD = new long[CALLS.length];

    public static void main(String[] args) {
        for (int call = 0; call < CALLS.length; call++) {
            for (int i = 0; i < Integer.parseInt(CALLS[call].split(" ")[1]); i++) {
                OFTEN.add(call);
            }
        }
        for (int seed = 0; seed < SHORT_RUNS && Checks.wrong < 10; seed++) {
            new Run(seed).goOnLooking(100);
        }
        for (int seed = 0; seed < LONG_RUNS && Checks.wrong < 10; seed++) {
            new Run(-1 - seed).goOnToTheEnd();
        }
        checkThatAllWasReached();
        Checks.report("the model agrees");
    }

    /** A comparison of refusals alone would prove nothing: each call must have answered well, too. */
    private static void checkThatAllWasReached() {
        for (int call = 0; call < CALLS.length; call++) {
            if (GOOD[call] < 100) {
                Checks.fail(CALLS[call] + " answered well " + GOOD[call] + " times of " + ANSWERS[call]);
            }
        }
    }

    /** An object and the model, which are asked the same. */
    private static final class Run {
        final Calls calls = new Calls();
        final Model model = new Model();
        final Drawn drawn;
        final int seed;
        final StringBuilder log = new StringBuilder();
        boolean agrees = true;

        Run(int seed) {
            this.seed = seed;
            drawn = new Drawn(seed);
            if (!drawn.seldom(8)) {
                furnish();
            }
        }

        /** The looks are calls, too, but what the object holds is seen all the better. */
        void goOnLooking(int many) {
            for (int i = 0; i < many && agrees; i++) {
                int call = nextCall(CALLS.length - LOOKS);
                long[] want = both(call);
                long[] got = rowOf(calls.x);
                if (agrees && !(Arrays.equals(got, want) && Arrays.equals(state(calls.x), model.state()))) {
                    differs("behind it the row is " + Arrays.toString(got) + ", due is " + Arrays.toString(want)
                        + "\n  state " + Arrays.toString(state(calls.x)) + "\n  model " + Arrays.toString(model.state()));
                }
            }
        }

        void goOnToTheEnd() {
            // A text takes 20 calls of sign(), two of end() and the one that reads it.
            while (calls.left() >= 23 && agrees) {
                if (drawn.seldom(10)) {
                    ease();
                } else {
                    both(nextCall(CALLS.length));
                }
            }
            while (calls.left() > 0 && agrees) {
                ask("count", drawn.below(13));
            }
        }

        /** Without these the crews of a long run are soon too tired, too few, or without water. */
        private void ease() {
            switch (drawn.below(4)) {
                case 0:
                    ask("set", 1, 0);
                    break;
                case 1:
                    ask("set", 0, drawn.below(30));
                    break;
                case 2:
                    ask("rest", drawn.below(100));
                    break;
                default:
                    hireAll(drawn.below(3));
            }
        }

        private void hireAll(int barge) {
            for (int s = 0; s < 8; s++) {
                if (model.wouldAnswer("hire", barge, s) >= 0) {
                    ask("hire", barge, s);
                }
            }
        }

        private int nextCall(int below) {
            int call;
            do {
                call = OFTEN.get(drawn.below(OFTEN.size()));
            } while (call >= below);
            return call;
        }

        private long[] both(int call) {
            String[] parts = CALLS[call].split(" ");
            String text = drawn.textFor(parts[0]);
            if (text != null) {
                write(text);
            }
            long answer = ask(parts[0], argumentsFor(parts));
            ANSWERS[call]++;
            GOOD[call] += answer >= 0 ? 1 : 0;
            return model.row.stream().mapToLong(v -> v).toArray();
        }

        /** Most calls would be refused, were their arguments not drawn again, so that little went on. */
        private int[] argumentsFor(String[] parts) {
            int[] args = new int[parts.length - 2];
            int draws = args.length == 0 || drawn.seldom(3) ? 1 : 8;
            for (int draw = 0; draw < draws; draw++) {
                for (int i = 0; i < args.length; i++) {
                    args[i] = drawn.argument(Integer.parseInt(parts[i + 2]));
                }
                if (draws > 1 && model.wouldAnswer(parts[0], args) >= 0) {
                    break;
                }
            }
            return args;
        }

        private void write(String text) {
            log.append(" \"").append(text).append('"');
            // What was left in THE TEXT is sometimes read together with what comes behind it.
            int had = drawn.seldom(20) ? (int) model.count(12) : 0;
            ask("end", had);
            for (int i = 0; i < text.length(); i += 4) {
                ask("sign", Calls.four(text, i));
            }
            ask("end", Math.min((int) model.count(12), had + text.length()));
        }

        long ask(String call, int... args) {
            long want = model.ask(call, args);
            long got = calls.ask(call, args);
            if (!call.equals("sign") && !call.equals("end")) {
                log.append(' ').append(call).append(Arrays.toString(args)).append('=').append(want);
            }
            if (got != want) {
                differs("but got " + got);
            }
            return want;
        }

        private void differs(String why) {
            agrees = false;
            Checks.fail("seed " + seed + ":" + log + " " + why);
        }

        private void furnish() {
            int locks = 1 + drawn.below(4);
            told(drawn.lockText(locks), "locks");
            int singers = 5 + drawn.below(4);
            told(drawn.singerText(singers, drawn.seldom(4) ? locks : 0), "singers");
            told(drawn.bargeText(1 + drawn.below(3), drawn.seldom(6) ? locks : 0), "barges");
            if (drawn.seldom(2)) {
                ask("set", 0, 2);
            }
            int crew = drawn.seldom(3) ? 0 : singers - drawn.below(3);
            // Most calls need crews, which random hires alone would seldom bring together.
            for (int s = 0; s < crew; s++) {
                ask("hire", drawn.seldom(8) ? 1 : 0, s);
            }
        }

        private void told(String text, String call) {
            write(text);
            ask(call);
        }
    }

    private static long[] rowOf(LocksBySong x) {
        return Checks.row(x).stream().mapToLong(v -> v).toArray();
    }

    private static long[] state(LocksBySong x) {
        List<Long> all = new ArrayList<>();
        for (int i = -1; i <= 13; i++) {
            all.add((long) x.count(i));
        }
        for (int k = 0; k < x.count(0); k++) {
            for (int what = 0; what < 6; what++) {
                all.add((long) x.lock(k, what));
            }
        }
        for (int k = 0; k < x.count(1); k++) {
            for (int what = 0; what < 6; what++) {
                all.add((long) x.singer(k, what));
            }
        }
        for (int k = 0; k < x.count(2); k++) {
            for (int what = 0; what < 4; what++) {
                all.add((long) x.barge(k, what));
            }
        }
        return all.stream().mapToLong(v -> v).toArray();
    }
}
