import java.util.Arrays;
import java.util.Random;
import java.util.Set;
import java.util.TreeSet;

/** All promises: runs of 512 calls, the same ones each time, with the program's answers beside the model's. */
public final class RandomRunsTest {
    private static final int RUNS = 700;
    private static final int CALLS = 512;

    private final Random random;
    private final TempoPlayer player = new TempoPlayer();
    private final Model model = new Model();
    private String pending = "";
    /** How often a call is made with what is near to a range's ends or far outside it, of 100. */
    private final int wild;

    private static final Set<String> THROWN = new TreeSet<>();
    private static final Set<String> ANSWERED = new TreeSet<>();

    private RandomRunsTest(long seed) {
        random = new Random(seed);
        wild = new int[] {0, 3, 10, 40}[(int) (seed % 4)];
    }

    public static void main(String[] args) {
        int runs = args.length > 0 ? Integer.parseInt(args[0]) : RUNS;
        long first = args.length > 1 ? Long.parseLong(args[1]) : 1;
        for (long seed = first; seed < first + runs; seed++) {
            new RandomRunsTest(seed).run(seed);
        }
        for (String call : Calls.NAMES) {
            Check.isTrue(call + " is answered in some run", ANSWERED.contains(call));
        }
        Check.same("pairs of a call and what it throws in some run", 49, THROWN.size());
        Check.close();
    }

    private void run(long seed) {
        for (int call = 0; call < CALLS; call++) {
            String name = call == CALLS - 1 ? "digest" : anyCall();
            long[] a = arguments(name);
            Object due = model.call(name, a);
            Object got = answer(name, a);
            if (due instanceof Class) {
                THROWN.add(name + " " + due);
            } else {
                ANSWERED.add(name);
            }
            if (!due.equals(got)) {
                Check.complain("run " + seed + ", call " + call + ": " + name + Arrays.toString(a) + " answered " + got
                    + ", due is " + due);
                return;
            }
            Check.isTrue("alike", true);
        }
    }

    private String anyCall() {
        int chance = random.nextInt(100);
        if (!pending.isEmpty() && chance < 70) {
            return "append";
        }
        if (model.call("playing", 0).equals(-1L)) {
            if (chance < 12) {
                return "addBar";
            }
            return chance < 16 ? "setBar" : Calls.NAMES[random.nextInt(Calls.NAMES.length)];
        }
        return chance < 25 ? "advance" : chance < 40 ? "playing" : Calls.NAMES[random.nextInt(Calls.NAMES.length)];
    }

    private long[] arguments(String name) {
        switch (name) {
            case "addBar":
                return all(in(1, 12), in(1, 8));
            case "setBar":
                return setBar();
            case "mark":
                return all(random.nextInt(3) == 0 ? in(0, 287) : in(0, 30), in(200, 4000), random.nextInt(2));
            case "cue":
                return all(beat(), in(0, 479), in(0, 5000));
            case "append":
                return all(code());
            case "start":
                return all(bar(), in(0, 8), in(50, 200));
            case "advance":
                return all(random.nextInt(3) == 0 ? in(1, 60000) : in(1, 1500));
            case "playing":
                return all(in(0, 6));
            case "count":
                return all(in(0, 11));
            case "at":
                return all(time(), in(0, 2));
            case "bestSpeed": case "rubberFor":
                return all(bar(), target());
            case "ifMark":
                return all(beat(), random.nextInt(3) == 0 ? in(0, 287) : in(0, 30), in(200, 4000));
            case "keep": case "back":
                return all(in(0, 1));
            case "removeBar": case "bar":
                return all(bar(), in(0, 5));
            case "removeMark": case "tempo":
                return all(in(0, count(2) - 1), in(0, 2));
            case "removeCue": case "cueAt":
                return all(in(0, count(3) - 1), in(0, 4));
            case "beat":
                return all(beat(), in(0, 6));
            case "click":
                return all(beat(), in(0, 7));
            default:
                return all();
        }
    }

    private static long[] all(long... values) {
        return values;
    }

    private long[] setBar() {
        long what = in(0, 4);
        long[] most = {12, 8, 60000, 20000, 4095};
        long[] least = {1, 1, 100, 1, 0};
        int kind = (int) Math.max(0, Math.min(4, what));
        long value = random.nextInt(5) == 0 ? 0 : random.nextInt(3) == 0 ? in(least[kind], Math.min(most[kind], 900))
            : in(least[kind], most[kind]);
        return all(bar(), what, value);
    }

    /** A number of this range, or, now and then, of its ends or of what is outside. */
    private long in(long least, long most) {
        if (random.nextInt(100) < wild) {
            long[] odd = {least, most, least - 1, most + 1, 0, -1, Integer.MAX_VALUE, Integer.MIN_VALUE, random.nextInt()};
            return odd[random.nextInt(odd.length)];
        }
        return most < least ? least : least + random.nextInt((int) (most - least + 1));
    }

    private long count(int what) {
        return (Long) model.call("count", what);
    }

    private long bar() {
        return in(0, count(0) - 1);
    }

    private long beat() {
        return in(0, count(1) - 1);
    }

    private long time() {
        long end = count(5);
        int kind = random.nextInt(6);
        if (kind == 0 && count(1) > 0) {
            int beat = random.nextInt((int) count(1));
            long edge = (Long) model.call("beat", beat, 4);
            return edge + (random.nextBoolean() ? (Long) model.call("beat", beat, 5) : 0) + random.nextInt(3) - 1;
        }
        if (kind == 1) {
            long[] odd = {end, end - 1, end + 1, 0, -1, Long.MAX_VALUE, Long.MIN_VALUE, random.nextLong()};
            return odd[random.nextInt(odd.length)];
        }
        return end == 0 ? 0 : Math.floorMod(random.nextLong(), end);
    }

    private long target() {
        if (random.nextInt(100) < wild) {
            long[] odd = {0, 1, -1, 1000000000, 1000000001, Long.MAX_VALUE, Long.MIN_VALUE, random.nextLong()};
            return odd[random.nextInt(odd.length)];
        }
        long end = Math.max(count(5), 1);
        long near = end / 4 + Math.floorMod(random.nextLong(), 2 * end);
        return Math.min(1000000000, Math.max(1, random.nextInt(4) == 0 ? near / 1000 * 1000 : near));
    }

    /** Mostly the next character of some text of bars, at times a wrong one. */
    private long code() {
        if (pending.isEmpty()) {
            StringBuilder text = new StringBuilder();
            int bars = 1 + random.nextInt(random.nextInt(12) == 0 ? 30 : 4);
            for (int bar = 0; bar < bars; bar++) {
                text.append(bar == 0 ? "" : ";").append(1 + random.nextInt(12));
                text.append(random.nextInt(3) == 0 ? "d" + (1 + random.nextInt(8)) : "");
                text.append(random.nextInt(4) == 0 ? "r" + (100 + random.nextInt(59901)) : "");
                text.append(random.nextInt(4) == 0 ? "p" + (1 + random.nextInt(20000)) : "");
            }
            pending = text.toString();
        }
        int next = pending.charAt(0);
        pending = pending.substring(1);
        return random.nextInt(100) < wild / 4 ? "0123456789;drp 1".charAt(random.nextInt(16)) : in(next, next);
    }

    private Object answer(String name, long[] a) {
        try {
            return Calls.on(player, name, a);
        } catch (RuntimeException e) {
            return e.getClass();
        }
    }
}
