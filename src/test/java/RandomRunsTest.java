import java.util.ArrayDeque;
import java.util.HashMap;
import java.util.Map;
import java.util.regex.Matcher;
import java.util.regex.Pattern;

/**
 * Long runs of calls, drawn from fixed seeds, on an object and on a plain model that says the document
 * again without any of the class's short cuts. Each answer and each exception must be alike, and now and
 * then the whole of what the object tells of its state. No object is used for more calls than are promised.
 */
public final class RandomRunsTest {
    private static final int RUNS = 2500;
    private static final int MOST_CALLS = 512;
    /** More than one step of a run can need: a whole text, and the whole of the state. */
    private static final int STEP = 150;
    private static final int MOST_TOLD = 20;
    private static int wrong = 0;
    private static int calls = 0;

    /** A number that stands for an exception among answers. */
    private static final long INDEX = Long.MIN_VALUE;
    private static final long ARGUMENT = Long.MIN_VALUE + 1;
    private static final long STATE = Long.MIN_VALUE + 2;

    // ---- the model

    private static final class State implements Cloneable {
        int[] leaves = {2, 2, 2, 2};
        int wind = 0;
        int turn = 0;
        int[] settings = {3, 2};
        int[] fines = new int[2];
        int[] clips = new int[2];
        int[] taken = new int[2];

        State copy() {
            State s = new State();
            s.leaves = leaves.clone();
            s.wind = wind;
            s.turn = turn;
            s.settings = settings.clone();
            s.fines = fines.clone();
            s.clips = clips.clone();
            s.taken = taken.clone();
            return s;
        }

        boolean stem(int i) {
            return i >= 0 && i < leaves.length;
        }
    }

    private static int number(int[] leaves) {
        int sum = 0;
        int times = 1;
        for (int n : leaves) {
            sum += n * times;
            times *= 4;
        }
        return sum;
    }

    private static int sum(int[] numbers) {
        int sum = 0;
        for (int n : numbers) {
            sum += n;
        }
        return sum;
    }

    private static boolean possible(int[] leaves, int from, int to) {
        for (int i = from; i <= to; i++) {
            if (leaves[i] > 0) {
                return true;
            }
        }
        return false;
    }

    private static int[] cut(int[] leaves, int from, int to, int k) {
        int[] left = leaves.clone();
        for (int i = from; i <= to; i++) {
            left[i] = left[i] > k ? left[i] - k : 0;
        }
        return left;
    }

    private static int[] blow(int[] leaves, int wind) {
        int[] left = leaves.clone();
        for (int i = 0; i < leaves.length; i++) {
            int neighbour = wind == 1 ? i - 1 : i + 1;
            if (wind != 0 && neighbour >= 0 && neighbour < leaves.length && leaves[i] > 0 && leaves[neighbour] == 0) {
                left[i]--;
            }
        }
        return left;
    }

    private static int fines(int[] before, int[] behind, int each) {
        int fines = 0;
        for (int i = 0; i < before.length; i++) {
            if (before[i] > 0 && behind[i] == 0) {
                fines += each;
            }
        }
        return fines;
    }

    private static final Map<Long, Integer> WORTHS = new HashMap<>();

    private static int worth(int[] leaves, State rules) {
        if (sum(leaves) == 0) {
            return 0;
        }
        long key = number(leaves);
        for (int part : new int[] {leaves.length, rules.wind, rules.settings[0], rules.settings[1]}) {
            key = key * 10 + part;
        }
        Integer found = WORTHS.get(key);
        if (found == null) {
            int greatest = Integer.MIN_VALUE;
            for (int number = 0; number <= 999; number++) {
                if (isClip(leaves, number, rules)) {
                    greatest = Math.max(greatest, gain(leaves, number, rules));
                }
            }
            found = greatest;
            WORTHS.put(key, found);
        }
        return found;
    }

    private static boolean isClip(int[] leaves, int number, State rules) {
        int from = number / 100;
        int to = number / 10 % 10;
        int k = number % 10;
        return from < leaves.length && to < leaves.length && k >= 1 && k <= 3 && from <= to
                && to <= from + rules.settings[1] - 1 && possible(leaves, from, to);
    }

    private static int[] behind(int[] leaves, int number, State rules) {
        return blow(cut(leaves, number / 100, number / 10 % 10, number % 10), rules.wind);
    }

    private static int gain(int[] leaves, int number, State rules) {
        int[] behind = behind(leaves, number, rules);
        return -worth(behind, rules) - fines(leaves, behind, rules.settings[0]);
    }

    /** What is asked of all clips: 0 how many there are, 1 the best one, 2 how many are best. */
    private static int ofClips(int[] leaves, State rules, int what) {
        int count = 0;
        int best = -1;
        int bests = 0;
        for (int number = 0; number <= 999; number++) {
            if (isClip(leaves, number, rules)) {
                count++;
                if (gain(leaves, number, rules) == worth(leaves, rules)) {
                    best = best < 0 ? number : best;
                    bests++;
                }
            }
        }
        return what == 0 ? count : what == 1 ? best : bests;
    }

    private static final Pattern GARDEN = Pattern.compile("H([0-3]{2,6})((?:c[0-5][0-5][1-3]|w[0-5]|g[0-2]|p|b)*)");

    private static int errorPosition(String text) {
        for (int i = 0; i < text.length(); i++) {
            Matcher matcher = GARDEN.matcher(text.substring(0, i + 1));
            if (!matcher.matches() && !matcher.hitEnd()) {
                return i;
            }
        }
        return GARDEN.matcher(text).matches() ? -1 : text.length();
    }

    private static final class Model {
        State now = new State();
        String text = "";
        ArrayDeque<State> remembered = new ArrayDeque<>();
        State[] slots = new State[2];

        private void remember() {
            remembered.addLast(now.copy());
            if (remembered.size() > 14) {
                remembered.removeFirst();
            }
        }

        long call(String name, long[] a) {
            int x = a.length > 0 ? (int) a[0] : 0;
            int y = a.length > 1 ? (int) a[1] : 0;
            switch (name) {
                case "append":
                    if (x < 0 || x > 255) return ARGUMENT;
                    if (text.length() == 120) return STATE;
                    text += (char) x;
                    return text.length();
                case "clearText": {
                    int length = text.length();
                    text = "";
                    return length;
                }
                case "errorPosition": return errorPosition(text);
                case "load": return load();
                case "about": return about(x);
                case "leaves": return now.stem(x) ? now.leaves[x] : INDEX;
                case "gardener":
                    if (x < 0 || x > 1) return INDEX;
                    if (y < 0 || y > 2) return ARGUMENT;
                    return y == 0 ? now.fines[x] : y == 1 ? now.clips[x] : now.taken[x];
                case "setting": return x < 0 || x > 1 ? ARGUMENT : now.settings[x];
                case "undo":
                    if (remembered.isEmpty()) return STATE;
                    now = remembered.removeLast();
                    return remembered.size();
                case "ifClipped": return ifClipped(x, y, (int) a[2], (int) a[3]);
                case "worth": return 100 + worth(now.leaves, now);
                case "bestClip": return ofClips(now.leaves, now, 1);
                case "bestClips": return ofClips(now.leaves, now, 2);
                case "goesOn": return goesOn(x, y);
                case "bestWater": return bestWater();
                case "winner": return winner(now);
                case "runScript": return runScript(x, a[1]);
                case "simulate": return simulate(a[0], y);
                case "save":
                    if (x < 0 || x > 1) return INDEX;
                    slots[x] = now.copy();
                    return sum(now.clips);
                case "restore":
                    if (x < 0 || x > 1) return INDEX;
                    if (slots[x] == null) return STATE;
                    now = slots[x].copy();
                    remembered.clear();
                    return sum(now.clips);
                default: {
                    State before = now.copy();
                    long answer = act(now, name, a);
                    if (answer >= -1) {
                        State behind = now;
                        now = before;
                        remember();
                        now = behind;
                    }
                    return answer;
                }
            }
        }

        private long load() {
            Matcher matcher = GARDEN.matcher(text);
            if (!matcher.matches()) return STATE;
            now = new State();
            now.leaves = new int[matcher.group(1).length()];
            for (int i = 0; i < now.leaves.length; i++) {
                now.leaves[i] = matcher.group(1).charAt(i) - '0';
            }
            remembered.clear();
            slots = new State[2];
            Matcher commands = Pattern.compile("[a-z][0-9]*").matcher(matcher.group(2));
            int leftOut = 0;
            while (commands.find()) {
                String c = commands.group();
                long[] a = new long[c.length() - 1];
                for (int i = 0; i < a.length; i++) {
                    a[i] = c.charAt(i + 1) - '0';
                }
                String name = Map.of('c', "clip", 'w', "water", 'g', "wind", 'p', "pass", 'b', "best").get(c.charAt(0));
                if (act(now, name, a) < -1) {
                    leftOut++;
                }
            }
            return leftOut;
        }

        private long about(int what) {
            int bare = 0;
            for (int n : now.leaves) {
                bare += n == 0 ? 1 : 0;
            }
            switch (what) {
                case 0: return now.leaves.length;
                case 1: return sum(now.leaves);
                case 2: return bare;
                case 3: return now.wind;
                case 4: return now.turn;
                case 5: return sum(now.clips);
                case 6: return bare == now.leaves.length ? 1 : 0;
                case 7: return number(now.leaves);
                case 8: return ofClips(now.leaves, now, 0);
                default: return ARGUMENT;
            }
        }

        private long ifClipped(int from, int to, int k, int what) {
            if (!now.stem(from) || !now.stem(to)) return INDEX;
            if (k < 1 || k > 3 || what < 0 || what > 3 || to < from || to - from + 1 > now.settings[1]) return ARGUMENT;
            if (!possible(now.leaves, from, to)) return -1;
            int[] cut = cut(now.leaves, from, to, k);
            int[] behind = blow(cut, now.wind);
            switch (what) {
                case 0: return fines(now.leaves, behind, now.settings[0]);
                case 1: return number(behind);
                case 2: return 100 + worth(behind, now);
                default: return sum(cut) - sum(behind);
            }
        }

        private long goesOn(int n, int what) {
            if (n < 1 || n > 18 || what < 0 || what > 1) return ARGUMENT;
            int[] leaves = now.leaves;
            int clips = 0;
            for (int i = 0; i < n && sum(leaves) > 0; i++) {
                leaves = behind(leaves, ofClips(leaves, now, 1), now);
                clips++;
            }
            return what == 0 ? number(leaves) : clips;
        }

        private long bestWater() {
            int best = -1;
            int greatest = worth(now.leaves, now);
            for (int i = 0; i < now.leaves.length; i++) {
                int[] watered = now.leaves.clone();
                watered[i]++;
                if (watered[i] <= 3 && worth(watered, now) > greatest) {
                    greatest = worth(watered, now);
                    best = i;
                }
            }
            return best;
        }

        private static long winner(State s) {
            // The game is gone through to its end, clip by clip.
            State end = s.copy();
            while (sum(end.leaves) > 0) {
                act(end, "best", new long[0]);
            }
            return end.fines[0] < end.fines[1] ? 0 : end.fines[1] < end.fines[0] ? 1 : 2;
        }

        private long runScript(int n, long script) {
            if (n < 1 || n > 3) return ARGUMENT;
            String digits = Long.toString(script);
            if (script < 0 || digits.length() > 4 * n) return ARGUMENT;
            digits = "0".repeat(4 * n - digits.length()) + digits;
            State copy = now.copy();
            for (int i = 0; i < n; i++) {
                if (!group(copy, digits.substring(4 * i, 4 * i + 4))) {
                    return i;
                }
            }
            return -1;
        }

        private static boolean group(State s, String g) {
            long d2 = g.charAt(1) - '0';
            long d3 = g.charAt(2) - '0';
            long d4 = g.charAt(3) - '0';
            int last = Integer.parseInt(g.substring(2));
            if (g.startsWith("1")) return act(s, "clip", new long[] {d2, d3, d4}) >= -1;
            if (g.matches("2.00")) return act(s, "water", new long[] {d2}) >= -1;
            if (g.matches("300.")) return act(s, "wind", new long[] {d4}) >= -1;
            if (g.equals("4000")) return act(s, "pass", new long[0]) >= -1;
            if (g.equals("5000")) return act(s, "best", new long[0]) >= -1;
            if (g.matches("6[01]..")) return s.fines[(int) d2] <= last;
            if (g.matches("7.0.")) return s.stem((int) d2) && s.leaves[(int) d2] == d4;
            if (g.matches("80..")) return 100 + worth(s.leaves, s) >= 100 - last;
            if (g.matches("900.")) return winner(s) == d4;
            return false;
        }

        private long simulate(long seed, int m) {
            if (m < 1 || m > 60) return ARGUMENT;
            State copy = now.copy();
            long x = seed;
            for (int i = 0; i < m; i++) {
                x = x * 6364136223846793005L + 1442695040888963407L;
                int r = (int) (x >>> 33);
                int q = r / 8;
                if (r % 8 == 0) act(copy, "water", new long[] {q % 6});
                else if (r % 8 == 1) act(copy, "wind", new long[] {q % 3});
                else if (r % 8 == 2 && q % 4 == 0) act(copy, "pass", new long[0]);
                else if (r % 8 == 2) act(copy, "set", new long[] {0, 1 + q % 9});
                else act(copy, "clip", new long[] {q % 6, q % 6 + q / 8 % 3, 1 + q / 32 % 3});
            }
            long fines = sum(copy.fines) - sum(now.fines);
            return 10000 * (sum(copy.clips) - sum(now.clips)) + Math.min(9999, fines);
        }

        /** An action on a state; an answer less than -1 stands for an exception. */
        private static long act(State s, String name, long[] a) {
            int x = a.length > 0 ? (int) a[0] : 0;
            int y = a.length > 1 ? (int) a[1] : 0;
            switch (name) {
                case "plant": {
                    if (x < 2 || x > 6 || y < 0 || y >= Math.pow(4, x)) return ARGUMENT;
                    State planted = new State();
                    s.leaves = new int[x];
                    for (int i = 0; i < x; i++) {
                        s.leaves[i] = y % 4;
                        y /= 4;
                    }
                    s.turn = 0;
                    s.fines = planted.fines;
                    s.clips = planted.clips;
                    s.taken = planted.taken;
                    return sum(s.leaves);
                }
                case "best":
                    if (sum(s.leaves) == 0) return STATE;
                    int best = ofClips(s.leaves, s, 1);
                    return act(s, "clip", new long[] {best / 100, best / 10 % 10, best % 10});
                case "clip": {
                    int k = (int) a[2];
                    if (!s.stem(x) || !s.stem(y)) return INDEX;
                    if (k < 1 || k > 3 || y < x || y - x + 1 > s.settings[1]) return ARGUMENT;
                    if (!possible(s.leaves, x, y)) return STATE;
                    int[] behind = blow(cut(s.leaves, x, y, k), s.wind);
                    int fines = fines(s.leaves, behind, s.settings[0]);
                    s.fines[s.turn] += fines;
                    s.clips[s.turn]++;
                    s.taken[s.turn] += sum(s.leaves) - sum(behind);
                    s.leaves = behind;
                    s.turn = s.turn == 0 ? 1 : 0;
                    return fines;
                }
                case "water":
                    if (!s.stem(x)) return INDEX;
                    return s.leaves[x] == 3 ? STATE : ++s.leaves[x];
                case "wind": {
                    if (x < 0 || x > 2) return ARGUMENT;
                    int previous = s.wind;
                    s.wind = x;
                    return previous;
                }
                case "pass":
                    s.turn = s.turn == 0 ? 1 : 0;
                    return s.turn;
                case "set": {
                    if (x < 0 || x > 1 || y < 1 || y > (x == 0 ? 9 : 3)) return ARGUMENT;
                    int previous = s.settings[x];
                    s.settings[x] = y;
                    return previous;
                }
                default: throw new AssertionError(name);
            }
        }
    }

    // ---- the object

    private static long call(HedgeClips h, String name, long[] a) {
        int x = a.length > 0 ? (int) a[0] : 0;
        int y = a.length > 1 ? (int) a[1] : 0;
        int z = a.length > 2 ? (int) a[2] : 0;
        try {
            switch (name) {
                case "append": return h.append(x);
                case "clearText": return h.clearText();
                case "errorPosition": return h.errorPosition();
                case "load": return h.load();
                case "about": return h.about(x);
                case "leaves": return h.leaves(x);
                case "gardener": return h.gardener(x, y);
                case "setting": return h.setting(x);
                case "plant": return h.plant(x, y);
                case "clip": return h.clip(x, y, z);
                case "water": return h.water(x);
                case "wind": return h.wind(x);
                case "pass": return h.pass();
                case "set": return h.set(x, y);
                case "undo": return h.undo();
                case "ifClipped": return h.ifClipped(x, y, z, (int) a[3]);
                case "worth": return h.worth();
                case "bestClip": return h.bestClip();
                case "bestClips": return h.bestClips();
                case "goesOn": return h.goesOn(x, y);
                case "bestWater": return h.bestWater();
                case "winner": return h.winner();
                case "runScript": return h.runScript(x, a[1]);
                case "simulate": return h.simulate(a[0], y);
                case "save": return h.save(x);
                case "restore": return h.restore(x);
                default: throw new AssertionError(name);
            }
        } catch (RuntimeException e) {
            // The very class: an exception of the machine is often a subclass of the one that is due.
            if (e.getClass() == IndexOutOfBoundsException.class) return INDEX;
            if (e.getClass() == IllegalArgumentException.class) return ARGUMENT;
            if (e.getClass() == IllegalStateException.class) return STATE;
            throw e;
        }
    }

    // ---- the runs

    private static final class Draw {
        private long x;

        Draw(long seed) {
            x = seed * 0x9E3779B97F4A7C15L + 1;
        }

        long next() {
            x ^= x << 13;
            x ^= x >>> 7;
            x ^= x << 17;
            return x;
        }

        int upTo(int bound) {
            return (int) Math.floorMod(next() >>> 11, (long) bound);
        }

        /** Mostly from least to most, now and then next to it or far from it. */
        int near(int least, int most) {
            int kind = upTo(24);
            if (kind == 0) return least - 1;
            if (kind == 1) return most + 1;
            if (kind == 2) return new int[] {Integer.MIN_VALUE, Integer.MAX_VALUE, -1000, 1000}[upTo(4)];
            return least + upTo(most - least + 1);
        }
    }

    private static final String[] NAMES = {
        "append", "clearText", "errorPosition", "load", "about", "leaves", "gardener", "setting", "plant", "plant",
        "clip", "clip", "clip", "clip", "clip", "clip", "water", "water", "water", "wind", "wind", "pass", "set", "set",
        "undo", "undo", "ifClipped", "ifClipped", "worth", "bestClip", "bestClips", "goesOn", "bestWater", "winner",
        "runScript", "runScript", "runScript", "simulate", "save", "restore", "text", "bestOf", "undoAll",
    };

    private static long[] arguments(Draw d, String name, Model m) {
        switch (name) {
            case "append": return new long[] {d.near(0, 255)};
            case "about": return new long[] {d.near(0, 8)};
            case "leaves": case "water": return new long[] {d.near(0, m.now.leaves.length - 1)};
            case "gardener": return new long[] {d.near(0, 1), d.near(0, 2)};
            case "setting": case "save": case "restore": return new long[] {d.near(0, 1)};
            case "plant": {
                int stems = d.near(2, 6);
                int count = stems < 0 || stems > 6 ? 4096 : 1 << (2 * stems);
                return new long[] {stems, d.near(0, count - 1)};
            }
            case "clip": case "ifClipped": {
                int from = d.near(0, m.now.leaves.length - 1);
                int to = d.upTo(20) == 0 ? d.near(0, 5) : from + d.upTo(m.now.settings[1]);
                return new long[] {from, to, d.near(1, 3), d.near(0, 3)};
            }
            case "wind": return new long[] {d.near(0, 2)};
            case "set": {
                int what = d.near(0, 1);
                return new long[] {what, d.near(1, what == 0 ? 9 : 3)};
            }
            case "goesOn": return new long[] {d.near(1, 18), d.near(0, 1)};
            case "runScript": return script(d);
            case "simulate": return new long[] {d.upTo(3) == 0 ? d.upTo(100) : d.next(), d.near(1, 60)};
            default: return new long[0];
        }
    }

    private static long[] script(Draw d) {
        int n = d.near(1, 3);
        long script = 0;
        for (int i = 0; i < Math.min(3, n); i++) {
            script = script * 10000 + group(d);
        }
        int kind = d.upTo(30);
        if (kind == 0) script = -1 - d.upTo(3);
        if (kind == 1) script = d.upTo(2) == 0 ? Long.MAX_VALUE : Long.MIN_VALUE;
        if (kind == 2) script = (long) Math.pow(10, 4.0 * Math.max(1, Math.min(3, n))) - d.upTo(2);
        return new long[] {n, script};
    }

    private static int group(Draw d) {
        int a = d.upTo(6);
        switch (d.upTo(12)) {
            case 0: return 1000 + 100 * a + 10 * Math.min(9, a + d.upTo(3)) + 1 + d.upTo(3);
            case 1: return 2000 + 100 * a;
            case 2: return 3000 + d.upTo(4);
            case 3: return 4000;
            case 4: return 5000;
            case 5: return 6000 + 100 * d.upTo(3) + d.upTo(40);
            case 6: return 7000 + 100 * a + d.upTo(5);
            case 7: return 8000 + d.upTo(60);
            case 8: return 9000 + d.upTo(4);
            case 9: return d.upTo(10000);
            case 10: return 1000 * (1 + d.upTo(9)) + 100 * d.upTo(3) + 10 * d.upTo(2) + d.upTo(2);
            default: return 5000;
        }
    }

    private static String gardenText(Draw d) {
        StringBuilder text = new StringBuilder("H");
        int stems = d.near(2, 6) & 7;
        for (int i = 0; i < stems; i++) {
            text.append(d.upTo(4));
        }
        int commands = d.upTo(30);
        for (int i = 0; i < commands; i++) {
            int from = d.upTo(6);
            switch (d.upTo(5)) {
                case 0: text.append('c').append(from).append(Math.min(5, from + d.upTo(3))).append(1 + d.upTo(3)); break;
                case 1: text.append('w').append(from); break;
                case 2: text.append('g').append(d.upTo(3)); break;
                case 3: text.append('p'); break;
                default: text.append('b'); break;
            }
        }
        int kind = d.upTo(4);
        int at = d.upTo(text.length());
        if (kind == 0) text.setCharAt(at, "Hcwgpb0123456 h\u00ff".charAt(d.upTo(16)));
        if (kind == 1) text.setLength(at);
        return text.toString();
    }

    private static void compare(HedgeClips h, Model m, String run, String name, long... a) {
        calls++;
        if (calls > MOST_CALLS) {
            throw new AssertionError(run + " is too long");
        }
        long got = call(h, name, a);
        long due = m.call(name, a);
        if (got != due) {
            wrong++;
            if (wrong <= MOST_TOLD) {
                System.out.println(run + ": " + name + java.util.Arrays.toString(a) + " answered " + got + ", due is " + due);
            }
        }
    }

    private static void compareStates(HedgeClips h, Model m, String run) {
        for (int what = 0; what <= 7; what++) {
            compare(h, m, run, "about", what);
        }
        for (int i = 0; i < 6; i++) {
            compare(h, m, run, "gardener", i / 3, i % 3);
        }
        compare(h, m, run, "setting", 0);
        compare(h, m, run, "setting", 1);
    }

    private static void run(int seed) {
        Draw d = new Draw(seed);
        HedgeClips h = new HedgeClips();
        Model m = new Model();
        calls = 0;
        for (int i = 0; calls < MOST_CALLS - STEP; i++) {
            String run = "run " + seed + ", call " + i;
            String name = NAMES[d.upTo(NAMES.length)];
            if (name.equals("text")) {
                compare(h, m, run, "clearText");
                for (char c : gardenText(d).toCharArray()) {
                    compare(h, m, run, "append", c);
                }
                compare(h, m, run, "errorPosition");
                compare(h, m, run, "load");
            } else if (name.equals("bestOf")) {
                for (int k = 0; k < 4; k++) {
                    int best = ofClips(m.now.leaves, m.now, 1);
                    compare(h, m, run, "clip", best / 100, best / 10 % 10, best % 10);
                }
            } else if (name.equals("undoAll")) {
                int times = d.upTo(4) == 0 ? 16 : 1;
                for (int k = 0; k < times; k++) {
                    compare(h, m, run, "undo");
                    compare(h, m, run, "about", 7);
                    compare(h, m, run, "setting", 0);
                }
            } else {
                compare(h, m, run, name, arguments(d, name, m));
            }
            if (d.upTo(4) == 0) {
                compareStates(h, m, run + ", behind " + name);
            }
        }
    }

    public static void main(String[] args) {
        for (int seed = 1; seed <= RUNS; seed++) {
            run(seed);
        }
        System.out.println(RUNS + " runs, " + wrong + " answers not as due");
        System.exit(wrong == 0 ? 0 : 1);
    }
}
