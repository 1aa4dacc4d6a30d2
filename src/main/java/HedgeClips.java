/**
 * Two gardeners who clip one hedge by turns, where who leaves a bare stem pays.
 * The document ../shared/DOC.md says what each method promises.
 */
public final class HedgeClips {
    /** There is no such result. */
    public static final int NONE = -1;

    private static final int LEAST_STEMS = 2;
    private static final int MOST_STEMS = 6;
    private static final int FIRST_STEMS = 4;
    private static final int FIRST_HEDGE = 0b10101010;
    private static final int MOST_STEM_LEAVES = 3;
    private static final int MOST_LEAVES = MOST_STEMS * MOST_STEM_LEAVES;
    private static final int MOST_REACH = 3;
    private static final int MOST_FINE = 9;
    private static final int WINDS = 3;
    private static final int NO_WIND = 0;
    private static final int FROM_LEFT = 1;
    private static final int MOST_STEPS = 18;
    private static final int MOST_COMMANDS = 3;
    private static final int GROUP = 10000;
    private static final int MOST_TURNS = 60;
    private static final int MOST_TOLD_FINES = 9999;
    /** Answers that tell a worth are greater by this, so that none is negative. */
    private static final int EVEN = 100;
    private static final int DRAW = 2;

    private final Garden now;
    /** What scripts and simulations change instead of the state. */
    private final Garden copy;
    private final Memory memory;
    /** The states in the save slots; null where nothing has been saved. */
    private final Garden[] slots;
    private final Text text;
    private final Outlooks outlooks;

    public HedgeClips() {
        now = new Garden();
        copy = new Garden();
        memory = new Memory();
        slots = new Garden[2];
        text = new Text();
        outlooks = new Outlooks();
    }

    // ---- text

    public int append(int c) throws IllegalArgumentException, IllegalStateException {
        if (c < 0 || c > 255) {
            throw new IllegalArgumentException("not a character code");
        }
        if (!text.takes((char) c)) {
            throw new IllegalStateException("the text is full");
        }
        return text.length;
    }

    public int clearText() {
        int length = text.length;
        text.length = 0;
        return length;
    }

    public int errorPosition() {
        return text.firstFault();
    }

    public int load() throws IllegalStateException {
        if (text.firstFault() != NONE) {
            throw new IllegalStateException("the text is not a garden");
        }
        now.makeNew(text.stems(), text.hedge());
        memory.forget();
        for (int i = 0; i < slots.length; i++) {
            slots[i] = null;
        }
        int leftOut = 0;
        for (int i = 1; i < text.length; i++) {
            // In a garden each letter behind the H begins a command.
            if (!text.hasDigit(i) && !obeyCommand(i)) {
                leftOut++;
            }
        }
        return leftOut;
    }

    private boolean obeyCommand(int i) {
        switch (text.at(i)) {
            case 'c':
                return now.triesClip(text.digit(i + 1), text.digit(i + 2), text.digit(i + 3));
            case 'w':
                return now.triesWater(text.digit(i + 1));
            case 'g':
                return now.triesWind(text.digit(i + 1));
            case 'p':
                now.turnOver();
                return true;
            case 'b':
                return triesBestClip(now);
            default:
                return false;
        }
    }

    // ---- what there is

    public int about(int what) throws IllegalArgumentException {
        switch (what) {
            case 0:
                return now.stems;
            case 1:
                return Hedge.allLeaves(now.hedge);
            case 2:
                return now.stems - Integer.bitCount(Hedge.leafy(now.hedge));
            case 3:
                return now.wind;
            case 4:
                return now.turn;
            case 5:
                return now.allClips();
            case 6:
                return now.isOver() ? 1 : 0;
            case 7:
                return now.hedge;
            case 8:
                return outlooks.of(now).possibleClips(now.hedge);
            default:
                throw new IllegalArgumentException("nothing is told by this number");
        }
    }

    public int leaves(int i) throws IndexOutOfBoundsException {
        requireStem(i);
        return Hedge.leavesOf(now.hedge, i);
    }

    public int gardener(int g, int what) throws IndexOutOfBoundsException, IllegalArgumentException {
        if (!Garden.hasGardener(g)) {
            throw new IndexOutOfBoundsException("no such gardener");
        }
        switch (what) {
            case 0:
                return now.who(g).fines;
            case 1:
                return now.who(g).clips;
            case 2:
                return now.who(g).taken;
            default:
                throw new IllegalArgumentException("nothing is told by this number");
        }
    }

    public int setting(int what) throws IllegalArgumentException {
        requireSetting(what);
        return what == 0 ? now.fine : now.reach;
    }

    // ---- actions

    public int plant(int stems, int hedge) throws IllegalArgumentException {
        if (stems < LEAST_STEMS || stems > MOST_STEMS) {
            throw new IllegalArgumentException("no hedge has so many stems");
        }
        if (hedge < 0 || hedge >= Hedge.hedges(stems)) {
            throw new IllegalArgumentException("no hedge of these stems has this number");
        }
        memory.keep(now);
        now.replant(stems, hedge);
        return Hedge.allLeaves(hedge);
    }

    public int clip(int from, int to, int k)
            throws IndexOutOfBoundsException, IllegalArgumentException, IllegalStateException {
        requireClip(from, to, k);
        if (!Hedge.hasLeaves(now.hedge, from, to)) {
            throw new IllegalStateException("these stems are bare");
        }
        memory.keep(now);
        return now.doClip(Clip.number(from, to, k));
    }

    public int water(int i) throws IndexOutOfBoundsException, IllegalStateException {
        requireStem(i);
        if (Hedge.isFull(now.hedge, i)) {
            throw new IllegalStateException("the stem has all leaves");
        }
        memory.keep(now);
        now.hedge = Hedge.watered(now.hedge, i);
        return Hedge.leavesOf(now.hedge, i);
    }

    public int wind(int wind) throws IllegalArgumentException {
        if (!Garden.isWind(wind)) {
            throw new IllegalArgumentException("no such wind");
        }
        int previous = now.wind;
        memory.keep(now);
        now.wind = wind;
        return previous;
    }

    public int pass() {
        memory.keep(now);
        now.turnOver();
        return now.turn;
    }

    public int set(int what, int v) throws IllegalArgumentException {
        requireSetting(what);
        if (v < 1 || v > (what == 0 ? MOST_FINE : MOST_REACH)) {
            throw new IllegalArgumentException("the value is out of its range");
        }
        int previous = what == 0 ? now.fine : now.reach;
        memory.keep(now);
        if (what == 0) {
            now.fine = v;
        } else {
            now.reach = v;
        }
        return previous;
    }

    public int undo() throws IllegalStateException {
        if (!memory.givesBack(now)) {
            throw new IllegalStateException("no state is remembered");
        }
        return memory.size;
    }

    // ---- what would be

    public int ifClipped(int from, int to, int k, int what)
            throws IndexOutOfBoundsException, IllegalArgumentException {
        requireClip(from, to, k);
        if (what < 0 || what > 3) {
            throw new IllegalArgumentException("nothing is told by this number");
        }
        if (!Hedge.hasLeaves(now.hedge, from, to)) {
            return NONE;
        }
        int cut = Hedge.clipped(now.hedge, Clip.number(from, to, k));
        int behind = Hedge.blown(cut, now.stems, now.wind);
        switch (what) {
            case 0:
                return now.fine * Hedge.bared(now.hedge, behind);
            case 1:
                return behind;
            case 2:
                return EVEN + worthOf(now, behind);
            default:
                return Hedge.allLeaves(cut) - Hedge.allLeaves(behind);
        }
    }

    public int worth() {
        return EVEN + worthOf(now, now.hedge);
    }

    public int bestClip() {
        return outlooks.of(now).bestClipOf(now.hedge);
    }

    public int bestClips() {
        return outlooks.of(now).countBestClips(now.hedge);
    }

    public int goesOn(int n, int what) throws IllegalArgumentException {
        if (n < 1 || n > MOST_STEPS) {
            throw new IllegalArgumentException("the number of clips is out of its range");
        }
        if (what < 0 || what > 1) {
            throw new IllegalArgumentException("nothing is told by this number");
        }
        Outlook outlook = outlooks.of(now);
        int hedge = now.hedge;
        int clips = 0;
        while (clips < n && hedge != 0) {
            hedge = outlook.behindBestClip(hedge);
            clips++;
        }
        return what == 0 ? hedge : clips;
    }

    public int bestWater() {
        int best = NONE;
        int greatest = worthOf(now, now.hedge);
        for (int i = 0; i < now.stems; i++) {
            if (!Hedge.isFull(now.hedge, i)) {
                int worth = worthOf(now, Hedge.watered(now.hedge, i));
                if (worth > greatest) {
                    greatest = worth;
                    best = i;
                }
            }
        }
        return best;
    }

    public int winner() {
        return winnerOf(now);
    }

    /** The worth of a hedge under the wind and the settings of a garden. */
    private int worthOf(Garden garden, int hedge) {
        return garden.fine * outlooks.of(garden).worthAt(hedge, 0);
    }

    private int winnerOf(Garden garden) {
        int other = 1 - garden.turn;
        int ahead = garden.who(other).fines - garden.who(garden.turn).fines + worthOf(garden, garden.hedge);
        if (ahead == 0) {
            return DRAW;
        }
        return ahead > 0 ? garden.turn : other;
    }

    private boolean triesBestClip(Garden garden) {
        int best = outlooks.of(garden).bestClipOf(garden.hedge);
        if (best == NONE) {
            return false;
        }
        garden.doClip(best);
        return true;
    }

    // ---- scripts, simulations

    public int runScript(int n, long script) throws IllegalArgumentException {
        if (n < 1 || n > MOST_COMMANDS) {
            throw new IllegalArgumentException("the number of commands is out of its range");
        }
        if (script < 0 || withoutGroups(script, n) != 0) {
            throw new IllegalArgumentException("the script is negative or has too many digits");
        }
        copy.becomes(now);
        for (int i = 0; i < n; i++) {
            if (!obeyGroup((int) (withoutGroups(script, n - 1 - i) % GROUP))) {
                return i;
            }
        }
        return NONE;
    }

    /** What is left of a script when its lowest groups are taken away. */
    private static long withoutGroups(long script, int groups) {
        long rest = script;
        for (int i = 0; i < groups; i++) {
            rest /= GROUP;
        }
        return rest;
    }

    /** Does a command of a script on the copy; tells whether it succeeds. */
    private boolean obeyGroup(int group) {
        int d2 = group / 100 % 10;
        int d3 = group / 10 % 10;
        int d4 = group % 10;
        int lastTwo = group % 100;
        switch (group / 1000) {
            case 1:
                return copy.triesClip(d2, d3, d4);
            case 2:
                return lastTwo == 0 && copy.triesWater(d2);
            case 3:
                return d2 == 0 && d3 == 0 && copy.triesWind(d4);
            case 4:
                // If the command fails, what becomes of the copy is seen by none.
                copy.turnOver();
                return group == 4000;
            case 5:
                return group == 5000 && triesBestClip(copy);
            case 6:
                return Garden.hasGardener(d2) && copy.who(d2).fines <= lastTwo;
            case 7:
                return d3 == 0 && copy.hasStem(d2) && Hedge.leavesOf(copy.hedge, d2) == d4;
            case 8:
                return d2 == 0 && worthOf(copy, copy.hedge) >= -lastTwo;
            case 9:
                return d2 == 0 && d3 == 0 && winnerOf(copy) == d4;
            default:
                return false;
        }
    }

    public int simulate(long seed, int m) throws IllegalArgumentException {
        if (m < 1 || m > MOST_TURNS) {
            throw new IllegalArgumentException("the number of turns is out of its range");
        }
        copy.becomes(now);
        long x = seed;
        for (int i = 0; i < m; i++) {
            x = x * 6364136223846793005L + 1442695040888963407L;
            simulateTurn((int) (x >>> 33));
        }
        int clips = copy.allClips() - now.allClips();
        int fines = copy.allFines() - now.allFines();
        return 10000 * clips + Math.min(fines, MOST_TOLD_FINES);
    }

    private void simulateTurn(int r) {
        int q = r / 8;
        switch (r % 8) {
            case 0:
                copy.triesWater(q % 6);
                break;
            case 1:
                copy.triesWind(q % 3);
                break;
            case 2:
                if (q % 4 == 0) {
                    copy.turnOver();
                } else {
                    copy.fine = 1 + q % 9;
                }
                break;
            default:
                copy.triesClip(q % 6, q % 6 + q / 8 % 3, 1 + q / 32 % 3);
                break;
        }
    }

    // ---- save slots

    public int save(int slot) throws IndexOutOfBoundsException {
        if (slot < 0 || slot >= slots.length) {
            throw new IndexOutOfBoundsException("no such save slot");
        }
        Garden saved = slots[slot];
        if (saved == null) {
            saved = new Garden();
            slots[slot] = saved;
        }
        saved.becomes(now);
        return now.allClips();
    }

    public int restore(int slot) throws IndexOutOfBoundsException, IllegalStateException {
        if (slot < 0 || slot >= slots.length) {
            throw new IndexOutOfBoundsException("no such save slot");
        }
        Garden saved = slots[slot];
        if (saved == null) {
            throw new IllegalStateException("nothing has been saved in this slot");
        }
        now.becomes(saved);
        memory.forget();
        return now.allClips();
    }

    // ---- what several methods require

    private void requireStem(int i) {
        if (!now.hasStem(i)) {
            throw new IndexOutOfBoundsException("no such stem");
        }
    }

    private void requireClip(int from, int to, int k) {
        requireStem(from);
        requireStem(to);
        if (!now.allowsClip(from, to, k)) {
            throw new IllegalArgumentException("no clip has these stems or leaves");
        }
    }

    private static void requireSetting(int what) {
        if (what < 0 || what > 1) {
            throw new IllegalArgumentException("no such setting");
        }
    }

    /** Hedges as numbers: the leaves of the stem i are the bits 2i and 2i + 1. */
    private static final class Hedge {
        /** The lower bit of each stem. */
        private static final int LOWER_BITS = 0b010101010101;

        /** How many hedges of so many stems there are. */
        static int hedges(int stems) {
            return 1 << (2 * stems);
        }

        static int leavesOf(int hedge, int i) {
            return (hedge >> (2 * i)) & 3;
        }

        static boolean isFull(int hedge, int i) {
            return leavesOf(hedge, i) == MOST_STEM_LEAVES;
        }

        static int watered(int hedge, int i) {
            return hedge + (1 << (2 * i));
        }

        static int allLeaves(int hedge) {
            return Integer.bitCount(hedge & LOWER_BITS) + 2 * Integer.bitCount((hedge >> 1) & LOWER_BITS);
        }

        /** The lower bits of the stems that have leaves. */
        static int leafy(int hedge) {
            return (hedge | (hedge >> 1)) & LOWER_BITS;
        }

        static boolean hasLeaves(int hedge, int from, int to) {
            return clipped(hedge, Clip.number(from, to, MOST_STEM_LEAVES)) != hedge;
        }

        /** The hedge when a clip has taken its leaves, ahead of the wind; the same hedge if there are none. */
        static int clipped(int hedge, int clip) {
            int left = hedge;
            int to = Clip.to(clip);
            int lost = Clip.lost(clip);
            for (int i = Clip.from(clip); i <= to; i++) {
                left -= Math.min(lost, leavesOf(hedge, i)) << (2 * i);
            }
            return left;
        }

        /** The hedge when the wind has taken the leaves behind bare stems. */
        static int blown(int hedge, int stems, int wind) {
            if (wind == NO_WIND) {
                return hedge;
            }
            int leafy = leafy(hedge);
            // The stem at the end has no neighbour from whose side the wind could come.
            int sheltered = wind == FROM_LEFT
                    ? (leafy << 2) | 1
                    : (leafy >> 2) | (1 << (2 * (stems - 1)));
            return hedge - (leafy & ~sheltered);
        }

        /** How many stems became bare from a hedge to the one behind its clip. */
        static int bared(int hedge, int behind) {
            return Integer.bitCount(leafy(hedge)) - Integer.bitCount(leafy(behind));
        }
    }

    /** Clips as numbers: 100 times the first stem, 10 times the last stem, and the leaves. */
    private static final class Clip {
        static int number(int from, int to, int k) {
            return 100 * from + 10 * to + k;
        }

        static int from(int clip) {
            return clip / 100;
        }

        static int to(int clip) {
            return clip / 10 % 10;
        }

        static int lost(int clip) {
            return clip % 10;
        }
    }

    private static final class Gardener {
        private int fines;
        private int clips;
        private int taken;

        void becomes(Gardener other) {
            fines = other.fines;
            clips = other.clips;
            taken = other.taken;
        }

        void makeNew() {
            fines = 0;
            clips = 0;
            taken = 0;
        }
    }

    /** The state, but for the states that are remembered. */
    private static final class Garden {
        private int stems;
        private int hedge;
        private int wind;
        private int turn;
        /** Setting 0: the fines for a stem. */
        private int fine;
        /** Setting 1: how many stems a clip has at most. */
        private int reach;
        private final Gardener first = new Gardener();
        private final Gardener second = new Gardener();

        Garden() {
            makeNew(FIRST_STEMS, FIRST_HEDGE);
        }

        void makeNew(int newStems, int newHedge) {
            wind = NO_WIND;
            fine = 3;
            reach = 2;
            replant(newStems, newHedge);
        }

        void replant(int newStems, int newHedge) {
            stems = newStems;
            hedge = newHedge;
            turn = 0;
            first.makeNew();
            second.makeNew();
        }

        void becomes(Garden other) {
            stems = other.stems;
            hedge = other.hedge;
            wind = other.wind;
            turn = other.turn;
            fine = other.fine;
            reach = other.reach;
            first.becomes(other.first);
            second.becomes(other.second);
        }

        static boolean hasGardener(int g) {
            return g == 0 || g == 1;
        }

        static boolean isWind(int wind) {
            return wind >= 0 && wind < WINDS;
        }

        Gardener who(int g) {
            return g == 0 ? first : second;
        }

        boolean hasStem(int i) {
            return i >= 0 && i < stems;
        }

        /** Whether a clip of stems that exist may be asked for, be it possible or not. */
        boolean allowsClip(int from, int to, int k) {
            return k >= 1 && k <= MOST_STEM_LEAVES && to >= from && to - from < reach;
        }

        boolean isOver() {
            return hedge == 0;
        }

        int allClips() {
            return first.clips + second.clips;
        }

        int allFines() {
            return first.fines + second.fines;
        }

        /** Clips, which must be possible; returns the fines that it brings. */
        int doClip(int clip) {
            int behind = Hedge.blown(Hedge.clipped(hedge, clip), stems, wind);
            int fines = fine * Hedge.bared(hedge, behind);
            Gardener gardener = who(turn);
            gardener.fines += fines;
            gardener.clips++;
            gardener.taken += Hedge.allLeaves(hedge) - Hedge.allLeaves(behind);
            hedge = behind;
            turnOver();
            return fines;
        }

        void turnOver() {
            turn = 1 - turn;
        }

        // What the methods of the face do, but where those throw, these tell false and change nothing.

        boolean triesClip(int from, int to, int k) {
            if (!hasStem(from) || !hasStem(to) || !allowsClip(from, to, k) || !Hedge.hasLeaves(hedge, from, to)) {
                return false;
            }
            doClip(Clip.number(from, to, k));
            return true;
        }

        boolean triesWater(int i) {
            if (!hasStem(i) || Hedge.isFull(hedge, i)) {
                return false;
            }
            hedge = Hedge.watered(hedge, i);
            return true;
        }

        boolean triesWind(int newWind) {
            if (!isWind(newWind)) {
                return false;
            }
            wind = newWind;
            return true;
        }
    }

    /** The states that undo can take back: a ring in which the newest takes the place of the oldest. */
    private static final class Memory {
        private final Garden[] ring = new Garden[14];
        private int size;
        /** Where the next state goes. */
        private int next;

        void forget() {
            size = 0;
        }

        void keep(Garden garden) {
            if (next < 0 || next >= ring.length) {
                next = 0;
            }
            Garden place = ring[next];
            if (place == null) {
                place = new Garden();
                ring[next] = place;
            }
            place.becomes(garden);
            next++;
            size = Math.min(size + 1, ring.length);
        }

        /** Makes a garden as it was remembered last; tells whether it was. */
        boolean givesBack(Garden garden) {
            int last = next == 0 ? ring.length - 1 : next - 1;
            if (size == 0 || last < 0 || last >= ring.length) {
                return false;
            }
            Garden place = ring[last];
            if (place == null) {
                return false;
            }
            garden.becomes(place);
            next = last;
            size--;
            return true;
        }
    }

    /** The text buffer, and what is allowed in it. */
    private static final class Text {
        private static final int END = -1;
        private final char[] signs = new char[120];
        private int length;

        /** Appends a character; tells whether there was room for it. */
        boolean takes(char sign) {
            if (length < 0 || length >= signs.length) {
                return false;
            }
            signs[length] = sign;
            length++;
            return true;
        }

        int at(int i) {
            return i >= 0 && i < length && i < signs.length ? signs[i] : END;
        }

        int digit(int i) {
            return at(i) - '0';
        }

        boolean hasDigit(int i) {
            return isBetween(at(i), '0', '9');
        }

        private static boolean isBetween(int sign, char least, char most) {
            return sign >= least && sign <= most;
        }

        /** The index behind the digits for the leaves of stems. */
        private int behindStems() {
            int i = 1;
            while (i <= MOST_STEMS && isBetween(at(i), '0', '3')) {
                i++;
            }
            return i;
        }

        int stems() {
            return behindStems() - 1;
        }

        int hedge() {
            int hedge = 0;
            for (int i = stems(); i > 0; i--) {
                hedge = 4 * hedge + digit(i);
            }
            return hedge;
        }

        /** The error position; NONE if the text is a garden. */
        int firstFault() {
            if (at(0) != 'H') {
                return 0;
            }
            int i = behindStems();
            if (i <= LEAST_STEMS) {
                return i;
            }
            while (i < length) {
                int fault = faultInCommand(i);
                if (fault != NONE) {
                    return fault;
                }
                i += 1 + digitsBehind(at(i));
            }
            return NONE;
        }

        private int faultInCommand(int i) {
            int letter = at(i);
            if (!isCommand(letter)) {
                return i;
            }
            int digits = digitsBehind(letter);
            for (int place = 1; place <= digits; place++) {
                if (!allowsDigit(letter, place, at(i + place))) {
                    return i + place;
                }
            }
            return NONE;
        }

        private static boolean isCommand(int letter) {
            return letter == 'c' || letter == 'w' || letter == 'g' || letter == 'p' || letter == 'b';
        }

        private static int digitsBehind(int letter) {
            if (letter == 'c') {
                return 3;
            }
            return letter == 'w' || letter == 'g' ? 1 : 0;
        }

        private static boolean allowsDigit(int letter, int place, int sign) {
            if (letter == 'g') {
                return isBetween(sign, '0', '2');
            }
            boolean tellsLeaves = letter == 'c' && place == 3;
            return tellsLeaves ? isBetween(sign, '1', '3') : isBetween(sign, '0', '5');
        }
    }

    /**
     * How the hedges of some stems end under one wind and one reach of clips, counted in stems:
     * setting 0 makes all fines greater alike, so it changes no best clip and need not be known here.
     */
    private static final class Outlook {
        private static final int UNKNOWN = 0;
        /** A worth lies from -6 to 6; with this it is never UNKNOWN. */
        private static final int SHIFT = 7;
        /** Less than any worth. */
        private static final int IMPOSSIBLE = -100;
        private static final int MOST_CLIPS = 45;

        private final int stems;
        private final int wind;
        /** All clips that may be asked for, the least numbers first. */
        private final int[] clips = new int[MOST_CLIPS];
        private final int clipCount;
        /** The worths found so far, each with SHIFT. */
        private final byte[] known;

        Outlook(int stems, int wind, int reach) {
            this.stems = Math.max(LEAST_STEMS, Math.min(stems, MOST_STEMS));
            this.wind = wind;
            known = new byte[Hedge.hedges(this.stems)];
            int count = 0;
            for (int from = 0; from < this.stems; from++) {
                for (int to = from; to < this.stems && to - from < reach; to++) {
                    for (int k = 1; k <= MOST_STEM_LEAVES; k++) {
                        if (count < clips.length) {
                            clips[count] = Clip.number(from, to, k);
                            count++;
                        }
                    }
                }
            }
            clipCount = count;
        }

        int possibleClips(int hedge) {
            int possible = 0;
            for (int i = 0; i < clipCount && i < clips.length; i++) {
                if (Hedge.clipped(hedge, clips[i]) != hedge) {
                    possible++;
                }
            }
            return possible;
        }

        int bestClipOf(int hedge) {
            int worth = worthAt(hedge, 0);
            for (int i = 0; i < clipCount && i < clips.length; i++) {
                if (gainAt(hedge, clips[i], 0) == worth) {
                    return clips[i];
                }
            }
            return NONE;
        }

        int countBestClips(int hedge) {
            int worth = worthAt(hedge, 0);
            int best = 0;
            for (int i = 0; i < clipCount && i < clips.length; i++) {
                if (gainAt(hedge, clips[i], 0) == worth) {
                    best++;
                }
            }
            return best;
        }

        /** The hedge behind its best clip; the same hedge if it is over. */
        int behindBestClip(int hedge) {
            int best = bestClipOf(hedge);
            return best == NONE ? hedge : Hedge.blown(Hedge.clipped(hedge, best), stems, wind);
        }

        /** The depth counts the clips ahead of this hedge: each took a leaf, so none lies deeper than all leaves. */
        private int worthAt(int hedge, int depth) {
            if (hedge <= 0 || hedge >= known.length || depth > MOST_LEAVES) {
                return 0;
            }
            if (known[hedge] == UNKNOWN) {
                int greatest = IMPOSSIBLE;
                for (int i = 0; i < clipCount && i < clips.length; i++) {
                    greatest = Math.max(greatest, gainAt(hedge, clips[i], depth));
                }
                known[hedge] = (byte) (greatest + SHIFT);
            }
            return known[hedge] - SHIFT;
        }

        /** What a clip is worth for the one who clips; IMPOSSIBLE if it takes no leaf. */
        private int gainAt(int hedge, int clip, int depth) {
            int cut = Hedge.clipped(hedge, clip);
            if (cut == hedge) {
                return IMPOSSIBLE;
            }
            int behind = Hedge.blown(cut, stems, wind);
            return -worthAt(behind, depth + 1) - Hedge.bared(hedge, behind);
        }
    }

    /** The outlooks made so far, one for each number of stems, wind and reach, so that each worth is found only once. */
    private static final class Outlooks {
        private final Outlook[] made = new Outlook[(MOST_STEMS - LEAST_STEMS + 1) * WINDS * MOST_REACH];

        Outlook of(Garden garden) {
            int place = ((garden.stems - LEAST_STEMS) * WINDS + garden.wind) * MOST_REACH + garden.reach - 1;
            if (place < 0 || place >= made.length) {
                return new Outlook(garden.stems, garden.wind, garden.reach);
            }
            Outlook found = made[place];
            if (found == null) {
                found = new Outlook(garden.stems, garden.wind, garden.reach);
                made[place] = found;
            }
            return found;
        }
    }
}
