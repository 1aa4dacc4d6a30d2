/**
 * Each promise of the document by its number: ordinary inputs, the edges that it names, wrong inputs.
 * The answers that are due are worked out by hand from the document.
 */
public final class PromisesTest {
    private static final Class<? extends RuntimeException> INDEX = IndexOutOfBoundsException.class;
    private static final Class<? extends RuntimeException> ARGUMENT = IllegalArgumentException.class;
    private static final Class<? extends RuntimeException> STATE = IllegalStateException.class;
    private static final int NONE = HedgeClips.NONE;
    private static final int FAR = Integer.MAX_VALUE;
    private static final int FAR_BELOW = Integer.MIN_VALUE;

    private static int promise = 0;
    private static int wrong = 0;

    private interface Call {
        void run();
    }

    private static void tell(String what) {
        wrong++;
        System.out.println("promise " + promise + ": " + what);
    }

    private static void due(String what, long got, long want) {
        if (got != want) {
            tell(what + " answered " + got + ", due is " + want);
        }
    }

    /** The call throws this very class, and the object tells the same as before. */
    private static void refused(HedgeClips h, String what, Class<? extends RuntimeException> kind, Call call) {
        String before = all(h);
        RuntimeException thrown = null;
        try {
            call.run();
        } catch (RuntimeException e) {
            thrown = e;
        }
        if (thrown == null || thrown.getClass() != kind) {
            tell(what + " threw " + thrown + ", due is " + kind.getSimpleName());
        }
        if (!before.equals(all(h))) {
            tell(what + " changed " + before + " to " + all(h));
        }
    }

    private static String all(HedgeClips h) {
        StringBuilder told = new StringBuilder();
        for (int what = 0; what <= 8; what++) {
            told.append(h.about(what)).append(' ');
        }
        for (int i = 0; i < 6; i++) {
            told.append(h.gardener(i / 3, i % 3)).append(' ');
        }
        return told.append(h.setting(0)).append(' ').append(h.setting(1)).append(' ').append(h.errorPosition()).toString();
    }

    private static void same(String what, HedgeClips h, String before) {
        if (!before.equals(all(h))) {
            tell(what + " left " + all(h) + ", due is " + before);
        }
    }

    private static HedgeClips withText(String text) {
        HedgeClips h = new HedgeClips();
        write(h, text);
        return h;
    }

    private static void write(HedgeClips h, String text) {
        h.clearText();
        for (int i = 0; i < text.length(); i++) {
            h.append(text.charAt(i));
        }
    }

    /** A hedge whose leaves are told by digits from the left. */
    private static HedgeClips planted(String leaves) {
        HedgeClips h = new HedgeClips();
        h.plant(leaves.length(), number(leaves));
        return h;
    }

    private static HedgeClips planted(String leaves, int wind, int reach) {
        HedgeClips h = planted(leaves);
        h.wind(wind);
        h.set(1, reach);
        return h;
    }

    private static int number(String leaves) {
        return Integer.parseInt(new StringBuilder(leaves).reverse().toString(), 4);
    }

    private static void newObject() {
        promise = 1;
        HedgeClips h = new HedgeClips();
        int[] told = {4, 8, 0, 0, 0, 0, 0, 170, 21};
        for (int what = 0; what < told.length; what++) {
            due("about(" + what + ")", h.about(what), told[what]);
        }
        for (int i = 0; i < 4; i++) {
            due("leaves(" + i + ")", h.leaves(i), 2);
        }
        for (int i = 0; i < 6; i++) {
            due("gardener(" + i / 3 + ", " + i % 3 + ")", h.gardener(i / 3, i % 3), 0);
        }
        due("setting(0)", h.setting(0), 3);
        due("setting(1)", h.setting(1), 2);
        due("clearText()", h.clearText(), 0);
        refused(h, "undo()", STATE, h::undo);
        refused(h, "restore(0)", STATE, () -> h.restore(0));
        refused(h, "restore(1)", STATE, () -> h.restore(1));
        due("NONE", HedgeClips.NONE, -1);
    }

    private static void append() {
        promise = 2;
        HedgeClips h = new HedgeClips();
        due("append(H)", h.append('H'), 1);
        due("append(0)", h.append(0), 2);
        due("append(255)", h.append(255), 3);
        for (int c : new int[] {-1, 256, FAR, FAR_BELOW}) {
            refused(h, "append(" + c + ")", ARGUMENT, () -> h.append(c));
        }
        for (int length = 4; length <= 120; length++) {
            due("append(x)", h.append('x'), length);
        }
        refused(h, "append to a full text", STATE, () -> h.append('x'));
        refused(h, "append(256) to a full text", ARGUMENT, () -> h.append(256));
        refused(h, "append(-1) to a full text", ARGUMENT, () -> h.append(-1));
        due("clearText()", h.clearText(), 120);
        due("append(H) to the empty text", h.append('H'), 1);
    }

    private static void clearText() {
        promise = 3;
        HedgeClips h = withText("H22");
        due("clearText()", h.clearText(), 3);
        due("clearText() again", h.clearText(), 0);
        due("errorPosition()", h.errorPosition(), 0);
        write(h, "H3");
        due("errorPosition() of a shorter text", h.errorPosition(), 2);
        h.pass();
        h.clearText();
        due("undo()", h.undo(), 0);
    }

    private static void errorPositions(int due, String... texts) {
        for (String text : texts) {
            due("errorPosition() of " + text, withText(text).errorPosition(), due);
        }
    }

    private static void errorPosition() {
        promise = 4;
        errorPositions(NONE, "H00", "H22", "H333333", "H0123", "H22p", "H22b", "H22c001", "H22c553", "H22c301", "H22w0",
                "H22w5", "H22g0", "H22g2", "H222222pbc013w3g1bp", "H22" + "p".repeat(117));
        errorPositions(0, "", "h22", " H22", "22", "pH22");
        errorPositions(1, "H", "Hp", "H4", "H ", "HH22", "H/2", "H:2");
        errorPositions(2, "H2", "H2p", "H24", "H2 ", "H2H");
        errorPositions(3, "H22x", "H22 ", "H224", "H22P", "H22H22", "H22" + (char) 255, "H22" + (char) 0, "H22/", "H22a");
        errorPositions(4, "H22c", "H22w", "H22g", "H22c6", "H22w6", "H22g3", "H22cp", "H22w/", "H22p0", "H22b1", "H22g:", "H22g/", "H22c ",
                "H22c:", "H22w:");
        errorPositions(5, "H22c0", "H22c06", "H22c0p", "H22w00", "H22g00", "H22pw");
        errorPositions(6, "H22c00", "H22c000", "H22c004", "H22c00p", "H22w0c", "H22w0g9");
        errorPositions(7, "H2222220", "H222222 ", "H22c0011", "H22c001x");
        errorPositions(8, "H333333c", "H22c001w");
        errorPositions(120, "H22" + "p".repeat(116) + "w", "H22" + "p".repeat(115) + "c0");
        errorPositions(119, "H22" + "p".repeat(116) + "x");
        HedgeClips h = withText("H22x");
        String before = all(h);
        h.errorPosition();
        same("errorPosition()", h, before);
    }

    private static void load() {
        promise = 5;
        HedgeClips h = withText("H0123");
        h.plant(2, 5);
        h.wind(2);
        h.set(0, 9);
        h.set(1, 3);
        h.clip(0, 0, 1);
        h.save(0);
        h.save(1);
        due("load()", h.load(), 0);
        int[] told = {4, 6, 1, 0, 0, 0, 0, number("0123"), 18};
        for (int what = 0; what < told.length; what++) {
            due("about(" + what + ") behind load()", h.about(what), told[what]);
        }
        due("setting(0)", h.setting(0), 3);
        due("setting(1)", h.setting(1), 2);
        due("fines", h.gardener(0, 0) + h.gardener(1, 0), 0);
        due("clips", h.gardener(0, 1) + h.gardener(1, 1), 0);
        due("leaves taken", h.gardener(0, 2) + h.gardener(1, 2), 0);
        refused(h, "undo() behind load()", STATE, h::undo);
        refused(h, "restore(0) behind load()", STATE, () -> h.restore(0));
        refused(h, "restore(1) behind load()", STATE, () -> h.restore(1));
        due("clearText() behind load()", h.clearText(), 5);
        loadCommands();
        loadRefused();
    }

    private static void loadCommands() {
        HedgeClips h = withText("H2222g1c001pw0c002c012");
        due("load() of commands", h.load(), 0);
        due("wind", h.about(3), 1);
        // c001: 1222; w0: 2222; c002: 0222, the wind: 0122; c012: the stem 1 is bare too, the wind: 0012.
        due("hedge", h.about(7), number("0012"));
        due("turn", h.about(4), 0);
        due("clips of 0", h.gardener(0, 1), 2);
        due("clips of 1", h.gardener(1, 1), 1);
        due("fines of 0", h.gardener(0, 0), 3);
        due("fines of 1", h.gardener(1, 0), 3);
        due("leaves taken by 0", h.gardener(0, 2), 4);
        due("leaves taken by 1", h.gardener(1, 2), 2);
        refused(h, "undo() behind commands", STATE, h::undo);
        due("load() again", h.load(), 0);
        due("hedge again", h.about(7), number("0012"));

        // Left out: no such stem, last ahead of first, too many stems, bare stems, a full stem, the hedge is over.
        due("stems that do not exist", withText("H33c021c201c551w2w5p").load(), 5);
        due("last ahead of first", withText("H333c101").load(), 1);
        due("too many stems", withText("H333c021c011").load(), 1);
        due("bare stems", withText("H003c013c223c223").load(), 2);
        due("a full stem", withText("H32w0w1w1").load(), 2);
        HedgeClips over = withText("H00bbpb");
        due("b if the hedge is over", over.load(), 3);
        due("turn", over.about(4), 1);
        HedgeClips best = withText("H20bb");
        due("b", best.load(), 0);
        due("b clips a leaf, then the stem: leaves", best.about(1), 0);
        due("b: clips", best.about(5), 2);
        due("b: fines of 1", best.gardener(1, 0), 3);
        due("b: fines of 0", best.gardener(0, 0), 0);
        HedgeClips six = withText("H012301");
        due("load() of six stems", six.load(), 0);
        due("six stems", six.about(0), 6);
        due("six stems as a number", six.about(7), number("012301"));
    }

    private static void loadRefused() {
        for (String text : new String[] {"", "H", "H2", "H22x", "H22c00", "x"}) {
            HedgeClips h = withText(text);
            h.clip(0, 0, 2);
            h.save(0);
            h.wind(1);
            refused(h, "load() of " + text, STATE, h::load);
            due("undo() behind load() that threw", h.undo(), 1);
            due("restore(0) behind load() that threw", h.restore(0), 1);
        }
    }

    private static void about() {
        promise = 6;
        HedgeClips h = planted("30120");
        int[] told = {5, 6, 2, 0, 0, 0, 0, number("30120"), 21};
        for (int what = 0; what < told.length; what++) {
            due("about(" + what + ")", h.about(what), told[what]);
        }
        // One stem: 3 of 5 stems; two stems: all 4; three stems: all 3; each with 1 to 3 leaves.
        h.set(1, 1);
        due("about(8) with single stems", h.about(8), 9);
        h.set(1, 2);
        h.set(1, 3);
        due("about(8) with three stems", h.about(8), 30);
        due("about(8) of six stems", planted("333333", 0, 3).about(8), 45);
        due("about(8) of two stems", planted("33", 0, 3).about(8), 9);
        due("about(8) of one stem with leaves", planted("0001", 0, 1).about(8), 3);
        h.wind(2);
        h.clip(0, 0, 3);
        due("wind", h.about(3), 2);
        due("turn", h.about(4), 1);
        due("clips", h.about(5), 1);
        h.clip(2, 4, 3);
        due("clips", h.about(5), 2);
        due("turn", h.about(4), 0);
        due("over", h.about(6), 1);
        due("bare stems", h.about(2), 5);
        due("possible clips when it is over", h.about(8), 0);
        for (int what : new int[] {-1, 9, FAR, FAR_BELOW}) {
            refused(h, "about(" + what + ")", ARGUMENT, () -> h.about(what));
        }
    }

    private static void leaves() {
        promise = 7;
        HedgeClips h = planted("30120");
        int[] leaves = {3, 0, 1, 2, 0};
        for (int i = 0; i < leaves.length; i++) {
            due("leaves(" + i + ")", h.leaves(i), leaves[i]);
        }
        for (int i : new int[] {-1, 5, 6, FAR, FAR_BELOW}) {
            refused(h, "leaves(" + i + ")", INDEX, () -> h.leaves(i));
        }
        due("leaves(5) of six stems", planted("000003").leaves(5), 3);
        refused(h, "leaves(2) of two stems", INDEX, () -> planted("33").leaves(2));
    }

    private static void gardener() {
        promise = 8;
        HedgeClips h = planted("2132", 1, 2);
        h.clip(0, 1, 3);
        // 0032, the wind: 0022; both stems became bare. Then 0002, the wind: 0001.
        h.clip(2, 2, 3);
        int[] told = {6, 1, 4, 3, 1, 3};
        for (int i = 0; i < 6; i++) {
            due("gardener(" + i / 3 + ", " + i % 3 + ")", h.gardener(i / 3, i % 3), told[i]);
        }
        for (int g : new int[] {-1, 2, FAR, FAR_BELOW}) {
            refused(h, "gardener(" + g + ", 0)", INDEX, () -> h.gardener(g, 0));
            refused(h, "gardener(" + g + ", 9)", INDEX, () -> h.gardener(g, 9));
        }
        for (int what : new int[] {-1, 3, FAR, FAR_BELOW}) {
            refused(h, "gardener(1, " + what + ")", ARGUMENT, () -> h.gardener(1, what));
        }
    }

    private static void setting() {
        promise = 9;
        HedgeClips h = new HedgeClips();
        h.set(0, 7);
        due("setting(0)", h.setting(0), 7);
        due("setting(1)", h.setting(1), 2);
        h.set(1, 1);
        due("setting(1)", h.setting(1), 1);
        for (int what : new int[] {-1, 2, FAR, FAR_BELOW}) {
            refused(h, "setting(" + what + ")", ARGUMENT, () -> h.setting(what));
        }
    }

    private static void plant() {
        promise = 10;
        HedgeClips h = new HedgeClips();
        h.wind(1);
        h.set(0, 5);
        h.set(1, 3);
        h.clip(0, 1, 3);
        h.clip(3, 3, 3);
        String before = all(h);
        due("plant(3, 57)", h.plant(3, 57), 6);
        int[] told = {3, 6, 0, 1, 0, 0, 0, 57, 18};
        for (int what = 0; what < told.length; what++) {
            due("about(" + what + ")", h.about(what), told[what]);
        }
        for (int i = 0; i < 6; i++) {
            due("gardener(" + i / 3 + ", " + i % 3 + ")", h.gardener(i / 3, i % 3), 0);
        }
        due("setting(0)", h.setting(0), 5);
        due("setting(1)", h.setting(1), 3);
        h.undo();
        same("undo() of plant", h, before);
        due("plant(2, 15)", h.plant(2, 15), 6);
        due("plant(6, 4095)", h.plant(6, 4095), 18);
        due("plant(6, 0)", h.plant(6, 0), 0);
        for (int stems : new int[] {-1, 0, 1, 7, FAR, FAR_BELOW}) {
            refused(h, "plant(" + stems + ", 1)", ARGUMENT, () -> h.plant(stems, 1));
        }
        for (int stems = 2; stems <= 6; stems++) {
            int most = (int) Math.pow(4, stems) - 1;
            int s = stems;
            due("plant(" + stems + ", most)", h.plant(stems, most), 3 * stems);
            for (int hedge : new int[] {-1, most + 1, FAR, FAR_BELOW}) {
                refused(h, "plant(" + stems + ", " + hedge + ")", ARGUMENT, () -> h.plant(s, hedge));
            }
        }
    }

    private static void clip() {
        promise = 11;
        HedgeClips h = planted("2132");
        due("clip(0, 1, 1)", h.clip(0, 1, 1), 3);
        due("hedge", h.about(7), number("1032"));
        due("turn", h.about(4), 1);
        due("clip(0, 1, 2) with a bare stem", h.clip(0, 1, 2), 3);
        due("hedge", h.about(7), number("0032"));
        due("fines of 0", h.gardener(0, 0), 3);
        due("fines of 1", h.gardener(1, 0), 3);
        due("leaves taken by 0", h.gardener(0, 2), 2);
        due("leaves taken by 1", h.gardener(1, 2), 1);
        due("clip(2, 3, 2)", h.clip(2, 3, 2), 3);
        due("hedge", h.about(7), number("0010"));
        clipInWind();
        clipRefused();
    }

    private static void clipInWind() {
        HedgeClips left = planted("1111", 1, 2);
        due("from the left: clip(1, 1, 1)", left.clip(1, 1, 1), 6);
        due("from the left: all at once", left.about(7), number("1001"));
        HedgeClips right = planted("1111", 2, 2);
        due("from the right: clip(2, 2, 1)", right.clip(2, 2, 1), 6);
        due("from the right: all at once", right.about(7), number("1001"));
        // The ends have no neighbour on the outer side; stems that were bare ahead are behind no clip either.
        HedgeClips ends = planted("3303", 1, 2);
        due("from the left: clip(0, 0, 1)", ends.clip(0, 0, 1), 0);
        due("from the left: bare ahead of the clip", ends.about(7), number("2302"));
        HedgeClips mirrored = planted("3033", 2, 2);
        due("from the right: clip(3, 3, 1)", mirrored.clip(3, 3, 1), 0);
        due("from the right: bare ahead of the clip", mirrored.about(7), number("2032"));
        HedgeClips six = planted("111113", 2, 3);
        six.set(0, 9);
        due("from the right, six stems", six.clip(1, 3, 3), 36);
        due("hedge", six.about(7), number("000013"));
        HedgeClips three = planted("222222", 1, 3);
        due("three stems", three.clip(0, 2, 2), 9);
        due("hedge", three.about(7), number("000122"));
    }

    private static void clipRefused() {
        HedgeClips h = planted("20022");
        for (int i : new int[] {-1, 5, FAR, FAR_BELOW}) {
            refused(h, "clip(" + i + ", 1, 1)", INDEX, () -> h.clip(i, 1, 1));
            refused(h, "clip(1, " + i + ", 1)", INDEX, () -> h.clip(1, i, 1));
            refused(h, "clip(1, " + i + ", 0)", INDEX, () -> h.clip(1, i, 0));
        }
        for (int k : new int[] {-1, 0, 4, FAR, FAR_BELOW}) {
            refused(h, "clip(0, 0, " + k + ")", ARGUMENT, () -> h.clip(0, 0, k));
            refused(h, "clip(1, 2, " + k + ")", ARGUMENT, () -> h.clip(1, 2, k));
        }
        refused(h, "clip(4, 3, 1)", ARGUMENT, () -> h.clip(4, 3, 1));
        refused(h, "clip(2, 1, 1)", ARGUMENT, () -> h.clip(2, 1, 1));
        refused(h, "clip(0, 2, 1)", ARGUMENT, () -> h.clip(0, 2, 1));
        refused(h, "clip(1, 1, 1)", STATE, () -> h.clip(1, 1, 1));
        refused(h, "clip(1, 2, 3)", STATE, () -> h.clip(1, 2, 3));
        due("undo(): what threw was not remembered", h.undo(), 0);
        HedgeClips single = planted("22222", 0, 1);
        refused(single, "clip(0, 1, 1) with single stems", ARGUMENT, () -> single.clip(0, 1, 1));
        due("clip(4, 4, 2) with single stems", single.clip(4, 4, 2), 3);
        HedgeClips triple = planted("22222", 0, 3);
        refused(triple, "clip(0, 3, 1) with three stems", ARGUMENT, () -> triple.clip(0, 3, 1));
        due("clip(2, 4, 1) with three stems", triple.clip(2, 4, 1), 0);
    }

    private static void water() {
        promise = 12;
        HedgeClips h = planted("0123");
        h.pass();
        due("water(0)", h.water(0), 1);
        due("water(2)", h.water(2), 3);
        due("hedge", h.about(7), number("1133"));
        due("turn", h.about(4), 1);
        due("undo()", h.undo(), 3);
        due("hedge", h.about(7), number("1123"));
        refused(h, "water(3)", STATE, () -> h.water(3));
        for (int i : new int[] {-1, 4, FAR, FAR_BELOW}) {
            refused(h, "water(" + i + ")", INDEX, () -> h.water(i));
        }
    }

    private static void wind() {
        promise = 13;
        HedgeClips h = new HedgeClips();
        due("wind(2)", h.wind(2), 0);
        due("wind(1)", h.wind(1), 2);
        due("wind(1) again", h.wind(1), 1);
        due("about(3)", h.about(3), 1);
        due("hedge", h.about(7), 170);
        for (int w : new int[] {-1, 3, FAR, FAR_BELOW}) {
            refused(h, "wind(" + w + ")", ARGUMENT, () -> h.wind(w));
        }
        due("undo(): also if nothing became different", h.undo(), 2);
        due("about(3)", h.about(3), 1);
        due("undo()", h.undo(), 1);
        due("about(3)", h.about(3), 2);
    }

    private static void pass() {
        promise = 14;
        HedgeClips h = new HedgeClips();
        due("pass()", h.pass(), 1);
        due("about(4)", h.about(4), 1);
        h.clip(0, 0, 1);
        due("clips of 1", h.gardener(1, 1), 1);
        due("pass() again", h.pass(), 1);
        due("undo()", h.undo(), 2);
        due("about(4)", h.about(4), 0);
        due("pass() when the hedge is over", planted("00").pass(), 1);
    }

    private static void set() {
        promise = 15;
        HedgeClips h = new HedgeClips();
        due("set(0, 1)", h.set(0, 1), 3);
        due("set(0, 9)", h.set(0, 9), 1);
        due("clip with 9 for a stem", h.clip(0, 1, 2), 18);
        due("set(1, 1)", h.set(1, 1), 2);
        due("set(1, 3)", h.set(1, 3), 1);
        due("setting(0)", h.setting(0), 9);
        due("setting(1)", h.setting(1), 3);
        due("undo()", h.undo(), 4);
        due("setting(1)", h.setting(1), 1);
        for (int what : new int[] {-1, 2, FAR, FAR_BELOW}) {
            refused(h, "set(" + what + ", 1)", ARGUMENT, () -> h.set(what, 1));
        }
        for (int v : new int[] {-1, 0, 10, FAR, FAR_BELOW}) {
            refused(h, "set(0, " + v + ")", ARGUMENT, () -> h.set(0, v));
        }
        for (int v : new int[] {-1, 0, 4, FAR, FAR_BELOW}) {
            refused(h, "set(1, " + v + ")", ARGUMENT, () -> h.set(1, v));
        }
    }

    private static void undo() {
        promise = 16;
        HedgeClips h = new HedgeClips();
        refused(h, "undo() of a new object", STATE, h::undo);
        h.wind(1);
        h.set(0, 4);
        String before = all(h);
        h.clip(0, 1, 2);
        due("undo()", h.undo(), 2);
        same("undo()", h, before);
        for (int i = 0; i < 40; i++) {
            h.set(0, 1 + i % 9);
        }
        // 42 actions stand; the 14 last of them are remembered.
        for (int i = 0; i < 14; i++) {
            due("undo() " + i, h.undo(), 13 - i);
            due("setting(0)", h.setting(0), 1 + (38 - i) % 9);
        }
        refused(h, "undo() of the 15th", STATE, h::undo);
        h.pass();
        due("undo() is no action", h.undo(), 0);
        refused(h, "undo() of undo()", STATE, h::undo);
        for (int i = 0; i < 13; i++) {
            h.pass();
        }
        due("undo() of 13", h.undo(), 12);
        h.pass();
        h.pass();
        due("undo() of 14", h.undo(), 13);
        undoAround();
    }

    /** Takes back all that is remembered, behind each number of actions. */
    private static void undoAround() {
        for (int actions = 1; actions <= 45; actions++) {
            HedgeClips h = new HedgeClips();
            for (int i = 1; i <= actions; i++) {
                h.set(0, 1 + i % 9);
            }
            for (int i = 1; i <= Math.min(actions, 14); i++) {
                due("undo() " + i + " of " + actions, h.undo(), Math.min(actions, 14) - i);
                int at = actions - i;
                due("setting(0) behind undo() " + i + " of " + actions, h.setting(0), at == 0 ? 3 : 1 + at % 9);
            }
            refused(h, "undo() of nothing behind " + actions, STATE, h::undo);
        }
    }

    private static void ifClipped() {
        promise = 17;
        HedgeClips h = planted("12030", 1, 2);
        h.set(0, 5);
        String before = all(h);
        // Without its leaf the stem 0 leaves the stem 1 to the wind; the stem 3 stands behind a bare one anyway.
        due("ifClipped(0, 0, 1, 0)", h.ifClipped(0, 0, 1, 0), 5);
        due("ifClipped(0, 0, 1, 1)", h.ifClipped(0, 0, 1, 1), number("01020"));
        due("ifClipped(0, 0, 1, 3)", h.ifClipped(0, 0, 1, 3), 2);
        due("ifClipped(0, 1, 1, 0)", h.ifClipped(0, 1, 1, 0), 10);
        due("ifClipped(2, 2, 1, 0)", h.ifClipped(2, 2, 1, 0), NONE);
        due("ifClipped(2, 2, 3, 1)", h.ifClipped(2, 2, 3, 1), NONE);
        due("ifClipped(2, 2, 3, 2)", h.ifClipped(2, 2, 3, 2), NONE);
        due("ifClipped(4, 4, 3, 3)", h.ifClipped(4, 4, 3, 3), NONE);
        same("ifClipped", h, before);
        due("undo() of what ifClipped did not remember", h.undo(), 3);
        // Behind it the other one has a single stem with one leaf, and pays for it.
        HedgeClips last = planted("20");
        due("ifClipped(0, 0, 1, 2)", last.ifClipped(0, 0, 1, 2), 97);
        due("ifClipped(0, 0, 2, 2)", last.ifClipped(0, 0, 2, 2), 100);
        due("ifClipped(0, 1, 1, 3) without wind", last.ifClipped(0, 1, 1, 3), 0);
        for (int i : new int[] {-1, 5, FAR, FAR_BELOW}) {
            refused(h, "ifClipped(" + i + ", 1, 1, 0)", INDEX, () -> h.ifClipped(i, 1, 1, 0));
            refused(h, "ifClipped(1, " + i + ", 0, 9)", INDEX, () -> h.ifClipped(1, i, 0, 9));
        }
        for (int v : new int[] {-1, 4, FAR, FAR_BELOW}) {
            refused(h, "ifClipped(0, 0, " + v + ", 0)", ARGUMENT, () -> h.ifClipped(0, 0, v, 0));
            refused(h, "ifClipped(0, 0, 1, " + v + ")", ARGUMENT, () -> h.ifClipped(0, 0, 1, v));
            refused(h, "ifClipped(2, 2, 1, " + v + ")", ARGUMENT, () -> h.ifClipped(2, 2, 1, v));
        }
        refused(h, "ifClipped(0, 0, 0, 0)", ARGUMENT, () -> h.ifClipped(0, 0, 0, 0));
        refused(h, "ifClipped(1, 0, 1, 0)", ARGUMENT, () -> h.ifClipped(1, 0, 1, 0));
        refused(h, "ifClipped(0, 2, 1, 0)", ARGUMENT, () -> h.ifClipped(0, 2, 1, 0));
    }

    /** Small hedges whose ends can be told without a program. */
    private static void worthAndBestClips() {
        promise = 18;
        due("worth() of a hedge that is over", planted("00").worth(), 100);
        due("bestClip() of a hedge that is over", planted("00").bestClip(), NONE);
        due("bestClips() of a hedge that is over", planted("00").bestClips(), 0);
        // One leaf: who has the turn must make the stem bare.
        HedgeClips one = planted("10", 0, 1);
        due("worth() of one leaf", one.worth(), 97);
        one.set(0, 9);
        due("worth() of one leaf for 9", one.worth(), 91);
        one.set(0, 1);
        due("worth() of one leaf for 1", one.worth(), 99);
        one.pass();
        due("worth() is for the one who has the turn", one.worth(), 99);
        // Two leaves: take one, then the other one pays. Of three leaves two are taken.
        HedgeClips two = planted("20", 0, 1);
        due("worth() of two leaves", two.worth(), 103);
        HedgeClips three = planted("30", 0, 1);
        due("worth() of three leaves", three.worth(), 103);
        // 11 with single stems: each pays for one. With both in one clip it would cost 6 at once.
        HedgeClips both = planted("11", 0, 2);
        due("worth() of 11", both.worth(), 100);
        // 11 in the wind: to take the stem 0 takes the stem 1 too; to take the stem 1 leaves one for the other.
        HedgeClips windy = planted("11", 1, 1);
        due("worth() of 11 in the wind from the left", windy.worth(), 100);
        due("worth() of the fresh hedge", new HedgeClips().worth(), 100);
        worthUnderAllRules();

        promise = 19;
        due("bestClip() of one leaf", one.bestClip(), 1);
        due("bestClip() of two leaves", two.bestClip(), 1);
        due("bestClip() of three leaves", three.bestClip(), 2);
        due("bestClip() of the stem 1", planted("03", 0, 1).bestClip(), 112);
        due("bestClip() of the stem 1 by two stems", planted("03", 0, 2).bestClip(), 12);
        due("bestClip() of 11 in the wind from the left", windy.bestClip(), 111);
        due("bestClip() of 11 in the wind from the right", planted("11", 2, 1).bestClip(), 1);
        due("bestClip() of the fresh hedge", new HedgeClips().bestClip(), 1);

        promise = 20;
        due("bestClips() of one leaf", one.bestClips(), 3);
        due("bestClips() of two leaves", two.bestClips(), 1);
        due("bestClips() of the stem 1 by two stems", planted("03", 0, 2).bestClips(), 2);
        due("bestClips() of 11", both.bestClips(), 6);
        due("bestClips() of 11 in the wind", windy.bestClips(), 3);
        due("bestClips() of the fresh hedge", new HedgeClips().bestClips(), 7);
    }

    /** What one object has been asked under other rules changes no answer of it. */
    private static void worthUnderAllRules() {
        HedgeClips h = new HedgeClips();
        for (int rules = 0; rules < 45; rules++) {
            int stems = 2 + rules / 9;
            int hedge = number("231312".substring(0, stems));
            HedgeClips fresh = new HedgeClips();
            for (HedgeClips each : new HedgeClips[] {h, fresh}) {
                each.plant(stems, hedge);
                each.wind(rules / 3 % 3);
                each.set(1, 1 + rules % 3);
            }
            due("worth() under rules " + rules, h.worth(), fresh.worth());
            due("bestClip() under rules " + rules, h.bestClip(), fresh.bestClip());
            due("bestClips() under rules " + rules, h.bestClips(), fresh.bestClips());
            due("about(8) under rules " + rules, h.about(8), fresh.about(8));
        }
    }

    private static void goesOn() {
        promise = 21;
        HedgeClips h = planted("20", 0, 1);
        due("goesOn(1, 0)", h.goesOn(1, 0), number("10"));
        due("goesOn(2, 0)", h.goesOn(2, 0), 0);
        due("goesOn(1, 1)", h.goesOn(1, 1), 1);
        due("goesOn(2, 1)", h.goesOn(2, 1), 2);
        due("goesOn(18, 1)", h.goesOn(18, 1), 2);
        due("goesOn(18, 0)", h.goesOn(18, 0), 0);
        due("goesOn(1, 1) of a hedge that is over", planted("00").goesOn(1, 1), 0);
        due("goesOn(1, 0) of a hedge that is over", planted("00").goesOn(1, 0), 0);
        // The best clip of 11 in the wind from the left takes the stem 1, then the stem 0 is left.
        HedgeClips windy = planted("11", 1, 1);
        due("goesOn(1, 0) in the wind", windy.goesOn(1, 0), number("10"));
        HedgeClips six = planted("333333", 2, 3);
        String before = all(six);
        due("goesOn(18, 0) of the greatest hedge", six.goesOn(18, 0), 0);
        same("goesOn", six, before);
        for (int n : new int[] {-1, 0, 19, FAR, FAR_BELOW}) {
            refused(h, "goesOn(" + n + ", 0)", ARGUMENT, () -> h.goesOn(n, 0));
        }
        for (int what : new int[] {-1, 2, FAR, FAR_BELOW}) {
            refused(h, "goesOn(1, " + what + ")", ARGUMENT, () -> h.goesOn(1, what));
        }
    }

    private static void bestWater() {
        promise = 22;
        // Of one leaf two are made: the loss of 3 becomes a gain of 3.
        due("bestWater() of 10", planted("10", 0, 1).bestWater(), 0);
        due("bestWater() of 01", planted("01", 0, 1).bestWater(), 1);
        due("bestWater() of 33", planted("33", 0, 3).bestWater(), NONE);
        due("bestWater() of two leaves", planted("20", 0, 1).bestWater(), NONE);
        due("bestWater() of a hedge that is over", planted("00").bestWater(), NONE);
        // 11 is even, and so is 21: with it the clip of a leaf leaves 11.
        due("bestWater() of 11, which none makes better", planted("11", 0, 1).bestWater(), NONE);
        // 111 costs one stem more than it brings; watered anywhere, the clip of that leaf leaves it to the other one.
        HedgeClips h = planted("111", 0, 1);
        due("bestWater() of several the lowest", h.bestWater(), 0);
        String before = all(h);
        h.bestWater();
        same("bestWater()", h, before);
    }

    private static void winner() {
        promise = 23;
        due("winner() of the fresh hedge", new HedgeClips().winner(), 2);
        due("winner() of one leaf", planted("10").winner(), 1);
        due("winner() of two leaves", planted("20", 0, 1).winner(), 0);
        HedgeClips passed = planted("10");
        passed.pass();
        due("winner() of one leaf, 1 has the turn", passed.winner(), 0);
        // The gardener 0 paid 3; the last stem with two leaves is paid by 0 as well.
        HedgeClips h = planted("12", 0, 1);
        h.clip(0, 0, 1);
        due("winner() behind fines", h.winner(), 1);
        h.clip(1, 1, 2);
        due("winner() when it is over", h.winner(), 2);
        HedgeClips dear = planted("11", 0, 1);
        dear.set(0, 9);
        dear.clip(0, 0, 1);
        dear.set(0, 1);
        due("winner() with other fines before", dear.winner(), 1);
        HedgeClips over = planted("10");
        over.clip(0, 0, 1);
        over.pass();
        due("winner() when only 0 has fines", over.winner(), 1);
    }

    private static void runScript() {
        promise = 24;
        HedgeClips h = planted("2132");
        String before = all(h);
        long[] succeed = {1011, 1001, 2000, 2100, 3000, 3002, 4000, 5000, 6000, 6100, 6199, 7002, 7101, 7203, 8099};
        for (long group : succeed) {
            due("runScript(1, " + group + ")", h.runScript(1, group), NONE);
        }
        long[] fail = {0, 1, 999, 1000, 1004, 1021, 1101, 1341, 1441, 2001, 2010, 2200, 2400, 2900, 3003, 3100, 3010,
            4001, 4010, 4100, 5001, 5010, 5100, 6200, 6900, 7001, 7012, 7103, 7402, 8100, 8900, 9100, 9010, 9003, 9009};
        for (long group : fail) {
            due("runScript(1, " + group + ")", h.runScript(1, group), 0);
        }
        same("runScript", h, before);
        runScripts();
        runScriptRefused(h);
    }

    private static void runScripts() {
        HedgeClips h = planted("2132");
        // The gardener 0 clips the stem 1 bare and pays 3.
        due("fines of at most 2", h.runScript(2, 1111_6002L), 1);
        due("fines of at most 3", h.runScript(2, 1111_6003L), NONE);
        due("fines of the other one", h.runScript(2, 1111_6100L), NONE);
        due("leaves behind a clip", h.runScript(3, 1111_7100_7002L), NONE);
        due("the third fails", h.runScript(3, 1111_7100_7001L), 2);
        due("the first with zeros before it", h.runScript(3, 1111L), 0);
        due("the second is 0", h.runScript(3, 4000_0000_4000L), 1);
        due("water, leaves", h.runScript(2, 2000_7003L), NONE);
        due("water of a full stem", h.runScript(2, 2000_2000L), 1);
        due("bare stems", h.runScript(2, 1111_1111L), 1);
        due("wind", h.runScript(3, 3001_1111_7202L), NONE);
        HedgeClips one = planted("10", 0, 1);
        due("worth() at least 97", one.runScript(1, 8003), NONE);
        due("worth() at least 98", one.runScript(1, 8002), 0);
        due("winner() is 1", one.runScript(1, 9001), NONE);
        due("winner() is 0", one.runScript(1, 9000), 0);
        due("winner() is 2", one.runScript(1, 9002), 0);
        due("pass, winner() is 0", one.runScript(2, 4000_9000L), NONE);
        due("best clip, over", one.runScript(2, 5000_5000L), 1);
        due("best clip, water", one.runScript(3, 5000_2000_7001L), NONE);
        due("clip, winner() is 1", one.runScript(3, 1001_4000_9001L), NONE);
        due("winner() is 2", new HedgeClips().runScript(1, 9002), NONE);
        due("worth() at least 100", new HedgeClips().runScript(1, 8000), NONE);
        HedgeClips dear = planted("111", 0, 3);
        dear.set(0, 9);
        due("fines of at most 26", dear.runScript(2, 1021_6026L), 1);
        due("fines of at most 27", dear.runScript(2, 1021_6027L), NONE);
        due("each script starts anew", dear.runScript(1, 6000), NONE);
    }

    private static void runScriptRefused(HedgeClips h) {
        for (int n : new int[] {-1, 0, 4, FAR, FAR_BELOW}) {
            refused(h, "runScript(" + n + ", 0)", ARGUMENT, () -> h.runScript(n, 0));
        }
        for (long script : new long[] {-1, 10000, Long.MAX_VALUE, Long.MIN_VALUE, 1L << 32}) {
            refused(h, "runScript(1, " + script + ")", ARGUMENT, () -> h.runScript(1, script));
        }
        refused(h, "runScript(2, 100000000)", ARGUMENT, () -> h.runScript(2, 100000000L));
        refused(h, "runScript(3, 1000000000000)", ARGUMENT, () -> h.runScript(3, 1000000000000L));
        due("runScript(1, 9999)", h.runScript(1, 9999), 0);
        due("runScript(2, 99999999)", h.runScript(2, 99999999L), 0);
        due("runScript(3, 999999999999)", h.runScript(3, 999999999999L), 0);
    }

    /** A seed whose first turn draws r. */
    private static long seedFor(long r) {
        long inverse = 1;
        for (int i = 0; i < 6; i++) {
            inverse *= 2 - 6364136223846793005L * inverse;
        }
        return ((r << 33) - 1442695040888963407L) * inverse;
    }

    private static void simulate() {
        promise = 25;
        HedgeClips h = planted("1111", 0, 3);
        String before = all(h);
        // r = 8 * q + kind; clip(q % 6, q % 6 + q / 8 % 3, 1 + q / 32 % 3).
        due("clip(0, 0, 1)", h.simulate(seedFor(8 * 0 + 3), 1), 10003);
        due("clip(2, 3, 1)", h.simulate(seedFor(8 * 8 + 4), 1), 10006);
        due("clip(1, 2, 1), q = 13", h.simulate(seedFor(8 * 13 + 7), 1), 10006);
        due("clip(4, 4, 1): no such stem", h.simulate(seedFor(8 * 4 + 5), 1), 0);
        due("clip(3, 4, 1): no such stem", h.simulate(seedFor(8 * 9 + 6), 1), 0);
        due("water(0)", h.simulate(seedFor(8 * 6), 1), 0);
        due("wind(1)", h.simulate(seedFor(8 * 4 + 1), 1), 0);
        due("pass()", h.simulate(seedFor(8 * 4 + 2), 1), 0);
        due("set(0, 7)", h.simulate(seedFor(8 * 6 + 2), 1), 0);
        for (int m : new int[] {-1, 0, 61, FAR, FAR_BELOW}) {
            refused(h, "simulate(1, " + m + ")", ARGUMENT, () -> h.simulate(1, m));
        }
        HedgeClips over = planted("00", 0, 1);
        due("three leaves of a stem", planted("30", 0, 1).simulate(seedFor(8 * 72 + 3), 1), 10003);
        due("two leaves of a stem", planted("30", 0, 1).simulate(seedFor(8 * 48 + 3), 1), 10000);
        due("bare stems", over.simulate(seedFor(8 * 0 + 3), 1), 0);
        h.clip(0, 2, 3);
        due("fines and clips of before do not count", h.simulate(seedFor(8 * 0 + 1), 1), 0);
        h.undo();
        same("simulate", h, before);
        simulateLong();
    }

    /** Turns one by one by the public methods come to the same as the simulation. */
    private static void simulateLong() {
        for (long seed : new long[] {0, 1, -1, 5, 77, Long.MAX_VALUE, Long.MIN_VALUE, 123456789123L}) {
            HedgeClips h = planted("332233", 1, 3);
            int clips = 0;
            int fines = 0;
            long x = seed;
            for (int m = 1; m <= 60; m++) {
                x = x * 6364136223846793005L + 1442695040888963407L;
                int r = (int) (x >>> 33);
                int before = h.about(5);
                int fine = turn(h, r % 8, r / 8);
                clips += h.about(5) - before;
                fines += fine;
                due("simulate(" + seed + ", " + m + ")", planted("332233", 1, 3).simulate(seed, m), 10000 * clips + fines);
            }
        }
    }

    private static int turn(HedgeClips h, int kind, int q) {
        try {
            if (kind == 0) {
                h.water(q % 6);
            } else if (kind == 1) {
                h.wind(q % 3);
            } else if (kind > 2) {
                return h.clip(q % 6, q % 6 + q / 8 % 3, 1 + q / 32 % 3);
            } else if (q % 4 == 0) {
                h.pass();
            } else {
                h.set(0, 1 + q % 9);
            }
        } catch (RuntimeException leftOut) {
            return 0;
        }
        return 0;
    }

    private static void saveAndRestore() {
        promise = 26;
        HedgeClips h = new HedgeClips();
        due("save(1) of a new object", h.save(1), 0);
        h.wind(1);
        h.set(0, 4);
        h.set(1, 3);
        h.clip(0, 2, 1);
        h.clip(0, 0, 1);
        String saved = all(h);
        due("save(0)", h.save(0), 2);
        same("save(0)", h, saved);
        due("save is no action", h.undo(), 4);
        h.clip(0, 0, 1);
        for (int slot : new int[] {-1, 2, FAR, FAR_BELOW}) {
            refused(h, "save(" + slot + ")", INDEX, () -> h.save(slot));
        }

        promise = 27;
        h.plant(2, 7);
        h.wind(2);
        due("restore(0)", h.restore(0), 2);
        same("restore(0)", h, saved);
        refused(h, "undo() behind restore", STATE, h::undo);
        h.clip(2, 2, 1);
        due("restore(0) again: the slot keeps it", h.restore(0), 2);
        same("restore(0) again", h, saved);
        due("restore(1)", h.restore(1), 0);
        due("hedge", h.about(7), 170);
        h.pass();
        h.pass();
        due("undo() behind restore and actions", h.undo(), 1);
        due("save(0) over another state", h.save(0), 0);
        h.undo();
        due("turn", h.about(4), 0);
        due("restore(0)", h.restore(0), 0);
        due("turn", h.about(4), 1);
        for (int slot : new int[] {-1, 2, FAR, FAR_BELOW}) {
            refused(h, "restore(" + slot + ")", INDEX, () -> h.restore(slot));
        }
        HedgeClips fresh = new HedgeClips();
        fresh.pass();
        fresh.save(0);
        refused(fresh, "restore(1), of which nothing was saved", STATE, () -> fresh.restore(1));
        due("undo() behind restore that threw", fresh.undo(), 0);
        write(fresh, "H22");
        fresh.load();
        refused(fresh, "restore(0) behind load", STATE, () -> fresh.restore(0));
        fresh.clip(0, 0, 1);
        fresh.save(1);
        fresh.clearText();
        due("restore(1) without a text", fresh.restore(1), 1);
    }

    public static void main(String[] args) {
        newObject();
        append();
        clearText();
        errorPosition();
        load();
        about();
        leaves();
        gardener();
        setting();
        plant();
        clip();
        water();
        wind();
        pass();
        set();
        undo();
        ifClipped();
        worthAndBestClips();
        goesOn();
        bestWater();
        winner();
        runScript();
        simulate();
        saveAndRestore();
        System.out.println(wrong == 0 ? "all promises hold" : wrong + " answers are not as due");
        System.exit(wrong == 0 ? 0 : 1);
    }
}
