import java.util.function.IntPredicate;

/**
 * Each sentence of the document's promises that names a boundary has a test of its own here, headed by its words.
 * The answers that are due are worked out by hand, those of long simulations by a program of its own.
 */
public final class PromisesBoundariesTest extends Runs {
    private static final String LEAST = String.valueOf(Integer.MIN_VALUE);
    private static final String MOST = String.valueOf(Integer.MAX_VALUE);

    private static void newObject() {
        sentence("1: Creates a hedge of 4 stems with 2 leaves each.");
        run("about(0) = 4", "leaves(0) = 2", "leaves(1) = 2", "leaves(2) = 2", "leaves(3) = 2", "leaves(4) ! Index", "about(1) = 8");
        run("stands 2222", "about(3) = 0", "about(4) = 0", "about(5) = 0", "about(6) = 0", "about(8) = 21", "fines 0 0", "clips 0 0",
                "taken 0 0", "setting(0) = 3", "setting(1) = 2", "errorPosition() = 0", "clearText() = 0", "undo() ! State",
                "restore(0) ! State", "restore(1) ! State", "load() ! State");

        sentence("An object is used for at most 512 calls after it has been made");
        run("497 times pass()", "about(4) = 1", "13 times undo()", "undo() = 0");
        run("set(0, 9) = 3", "wind(1) = 0", "plant(6, 4095) = 18", "508 times worth()", "worth() = 100");
    }

    private static void append() {
        sentence("2: Appends a character to the text buffer.");
        run("append('H') = 1", "append('2') = 2", "append('3') = 3", "append('p') = 4", "load() = 0", "stands 23", "about(4) = 1");

        sentence("2: c: character code, 0 to 255");
        run("append(0) = 1", "append(255) = 2", "append(127) = 3", "append(128) = 4", "clearText() = 4");

        sentence("2: Returns the new length of the text.");
        run("append('x') = 1", "117 times append('x')", "append('x') = 119", "append('x') = 120", "clearText() = 120", "append('x') = 1");

        sentence("2: Throws IllegalArgumentException if c is out of range");
        run("append(-1) ! Argument", "append(256) ! Argument", "append(" + LEAST + ") ! Argument", "append(" + MOST + ") ! Argument",
                "append(328) ! Argument", "clearText() = 0");

        sentence("2: Throws IllegalStateException if the text already has 120 characters");
        run("119 times append('x')", "append('x') = 120", "append('x') ! State", "append(0) ! State", "append(255) ! State",
                "clearText() = 120", "append('x') = 1");
    }

    private static void clearText() {
        sentence("3: Empties the text buffer.");
        run("text H22", "errorPosition() = NONE", "clearText() = 3", "errorPosition() = 0", "load() ! State", "append('H') = 1",
                "errorPosition() = 1");

        sentence("3: Returns the previous length of the text.");
        run("clearText() = 0", "append('x') = 1", "clearText() = 1", "clearText() = 0", "120 times append('x')", "clearText() = 120",
                "clearText() = 0");
    }

    private static void errorPosition() {
        sentence("4: Returns the error position of the text; NONE if it is a garden.");
        run("errorPosition() = 0", "append('H') = 1", "errorPosition() = 1", "append('2') = 2", "errorPosition() = 2",
                "append('2') = 3", "errorPosition() = NONE", "append('c') = 4", "errorPosition() = 4", "append('0') = 5",
                "errorPosition() = 5", "append('0') = 6", "errorPosition() = 6", "append('1') = 7", "errorPosition() = NONE",
                "append('8') = 8", "errorPosition() = 7", "append('p') = 9", "errorPosition() = 7");
        run("text H22" + "p".repeat(116) + "c", "errorPosition() = 120", "text H22" + "p".repeat(117), "errorPosition() = NONE",
                "text H22" + "p".repeat(116) + "h", "errorPosition() = 119", "text " + "H".repeat(120), "errorPosition() = 1");
    }

    private static void load() {
        sentence("5: Makes everything as in a new object, but with the stems that are told");
        run("wind(2) = 0", "set(0, 9) = 3", "set(1, 1) = 2", "clip(0, 0, 2) = 9", "clip(1, 1, 2) = 9", "clip(2, 2, 2) = 9", "text H132",
                "load() = 0", "stands 132", "about(3) = 0", "about(4) = 0", "about(5) = 0", "about(6) = 0", "fines 0 0", "clips 0 0",
                "taken 0 0", "setting(0) = 3", "setting(1) = 2", "about(8) = 15");
        run("text H00", "load() = 0", "stands 00", "about(6) = 1", "text H333333", "load() = 0", "stands 333333", "about(1) = 18");

        sentence("5: and then does the commands of the text.");
        run("text H22pg2w0c001c111", "load() = 0", "stands 21", "about(3) = 2", "about(4) = 1", "clips 1 1", "taken 1 1");
        run("text H22w0p", "load() = 0", "stands 32", "about(4) = 1", "text H22b", "load() = 0", "clips 1 0");
        run("text H22g1c002", "load() = 0", "stands 01", "fines 3 0", "taken 3 0", "load() = 0", "stands 01", "fines 3 0", "clips 1 0");

        sentence("5: Behind it no state is remembered, and both save slots are empty.");
        run("14 times pass()", "save(0) = 0", "save(1) = 0", "text H22c001pw0", "load() = 0", "undo() ! State", "restore(0) ! State",
                "restore(1) ! State", "pass() = 1", "undo() = 0", "undo() ! State");

        sentence("5: Keeps the text.");
        run("text H31p", "load() = 0", "errorPosition() = NONE", "water(1) = 2", "load() = 0", "stands 31", "about(4) = 1", "clearText() = 4");

        sentence("5: Returns the number of commands that are left out.");
        run("text H22pp", "load() = 0", "text H22w2", "load() = 1", "text H22w2pc221b", "load() = 2");
        // Three clips end it: 12 is left, 01, 00.
        run("text H22" + "b".repeat(117), "load() = 114", "stands 00", "clips 2 1", "fines 3 3");
        run("text H00" + "b".repeat(117), "load() = 117", "clips 0 0", "about(4) = 0");
        run("text H33" + "c112".repeat(29) + "w", "load() ! State", "append('0') ! State", "clearText() = 120");

        sentence("5: Throws IllegalStateException if the text is not a garden");
        run("load() ! State", "append('H') = 1", "load() ! State", "append('2') = 2", "load() ! State", "append('2') = 3", "load() = 0",
                "append('g') = 4", "load() ! State", "append('3') = 5", "load() ! State");
        run("pass() = 1", "save(0) = 0", "text H22x", "load() ! State", "restore(0) = 0", "about(4) = 1");
    }

    private static void about() {
        sentence("6: 0: the stems");
        run("about(0) = 4", "plant(2, 0) = 0", "about(0) = 2", "plant(6, 0) = 0", "about(0) = 6", "undo() = 1", "about(0) = 2");

        sentence("6: 1: all leaves");
        run("about(1) = 8", "hedge 333333", "about(1) = 18", "hedge 000000", "about(1) = 0", "hedge 100003", "about(1) = 4");

        sentence("6: 2: the bare stems");
        run("about(2) = 0", "hedge 000000", "about(2) = 6", "hedge 00", "about(2) = 2", "hedge 000001", "about(2) = 5", "hedge 10", "about(2) = 1");

        sentence("6: 3: the wind");
        run("about(3) = 0", "wind(2) = 0", "about(3) = 2", "wind(1) = 2", "about(3) = 1");

        sentence("6: 4: the gardener who has the turn");
        run("about(4) = 0", "pass() = 1", "about(4) = 1", "clip(0, 0, 1) = 0", "about(4) = 0", "water(0) = 2", "about(4) = 0");

        sentence("6: 5: the clips of both gardeners so far");
        run("about(5) = 0", "clip(0, 0, 1) = 0", "about(5) = 1", "clip(0, 0, 1) = 3", "about(5) = 2", "pass() = 1", "water(0) = 1",
                "about(5) = 2", "clip(0, 0, 1) = 3", "about(5) = 3", "undo() = 4", "about(5) = 2", "hedge 22", "about(5) = 0");

        sentence("6: 6: 1 if the hedge is over, otherwise 0");
        run("about(6) = 0", "hedge 01", "about(6) = 0", "clip(1, 1, 1) = 3", "about(6) = 1", "water(0) = 1", "about(6) = 0", "hedge 000000",
                "about(6) = 1");

        sentence("6: 7: the hedge as a number");
        run("about(7) = 170", "plant(6, 4095) = 18", "about(7) = 4095", "clip(5, 5, 3) = 3", "about(7) = 1023", "plant(2, 0) = 0", "about(7) = 0");

        sentence("6: 8: how many clips are possible (each first stem, last stem and number of leaves is one)");
        run("hedge 333333", "set(1, 3) = 2", "about(8) = 45", "set(1, 2) = 3", "about(8) = 33", "set(1, 1) = 2", "about(8) = 18");
        run("hedge 22", "set(1, 3) = 2", "about(8) = 9", "set(1, 2) = 3", "about(8) = 9", "set(1, 1) = 2", "about(8) = 6");
        // One leaf alone may be clipped by 1 to 3 leaves: by itself, with the stem beside it, with two of them.
        run("hedge 000001", "set(1, 3) = 2", "about(8) = 9", "set(1, 2) = 3", "about(8) = 6", "set(1, 1) = 2", "about(8) = 3");
        run("hedge 000000", "about(8) = 0", "hedge 00", "about(8) = 0");

        sentence("6: Throws IllegalArgumentException if what is not 0 to 8");
        run("about(-1) ! Argument", "about(9) ! Argument", "about(" + LEAST + ") ! Argument", "about(" + MOST + ") ! Argument",
                "about(0) = 4", "about(8) = 21");
    }

    private static void parts() {
        sentence("7: Returns the leaves of a stem.");
        run("hedge 301203", "leaves(0) = 3", "leaves(1) = 0", "leaves(2) = 1", "leaves(3) = 2", "leaves(4) = 0", "leaves(5) = 3");

        sentence("7: Throws IndexOutOfBoundsException if there is no such stem");
        run("leaves(3) = 2", "leaves(4) ! Index", "leaves(-1) ! Index", "leaves(" + LEAST + ") ! Index", "leaves(" + MOST + ") ! Index");
        run("hedge 33", "leaves(1) = 3", "leaves(2) ! Index", "leaves(3) ! Index", "hedge 333333", "leaves(5) = 3", "leaves(6) ! Index");

        sentence("8: 0: the fines; 1: the clips so far;");
        run("hedge 1111", "clip(0, 1, 1) = 6", "clip(2, 2, 1) = 3", "pass() = 1", "clip(3, 3, 1) = 3", "fines 6 6", "clips 1 2");
        run("clip(0, 0, 1) = 0", "fines 0 0", "clips 1 0", "plant(2, 5) = 2", "clips 0 0");

        sentence("8: 2: the leaves that the clips of this gardener took so far, those that the wind took behind them too");
        // Of three leaves that it may take the clip finds one, and then the wind takes one.
        run("hedge 1222", "wind(1) = 0", "clip(0, 0, 3) = 3", "stands 0122", "taken 2 0", "clip(3, 3, 1) = 3", "stands 0021", "taken 2 2");
        run("hedge 333333", "set(1, 3) = 2", "clip(0, 2, 3) = 9", "taken 9 0", "clip(2, 4, 3) = 6", "taken 9 6", "clip(5, 5, 3) = 3", "taken 12 6");
        run("water(0) = 3", "clip(0, 0, 1) = 0", "water(0) = 3", "taken 1 0");

        sentence("8: Throws IndexOutOfBoundsException if there is no such gardener");
        run("gardener(-1, 0) ! Index", "gardener(2, 0) ! Index", "gardener(" + LEAST + ", 0) ! Index", "gardener(" + MOST + ", 2) ! Index",
                "gardener(2, 3) ! Index", "gardener(0, 0) = 0", "gardener(1, 2) = 0");

        sentence("8: Throws IllegalArgumentException if what is not 0 to 2");
        run("gardener(0, -1) ! Argument", "gardener(0, 3) ! Argument", "gardener(1, -1) ! Argument", "gardener(1, 3) ! Argument",
                "gardener(1, " + LEAST + ") ! Argument", "gardener(0, " + MOST + ") ! Argument");

        sentence("9: what: 0 or 1");
        run("setting(0) = 3", "setting(1) = 2", "set(0, 9) = 3", "set(1, 1) = 2", "setting(0) = 9", "setting(1) = 1");

        sentence("9: Throws IllegalArgumentException if what is out of range");
        run("setting(-1) ! Argument", "setting(2) ! Argument", "setting(" + LEAST + ") ! Argument", "setting(" + MOST + ") ! Argument");
    }

    private static void plant() {
        sentence("10: The gardener 0 has the turn;");
        run("pass() = 1", "plant(2, 15) = 6", "about(4) = 0", "plant(2, 15) = 6", "about(4) = 0");

        sentence("10: fines and counts of gardeners become 0");
        run("clip(0, 1, 2) = 6", "clip(2, 3, 2) = 6", "fines 6 6", "clips 1 1", "taken 4 4", "plant(2, 15) = 6", "fines 0 0", "clips 0 0",
                "taken 0 0", "about(5) = 0");

        sentence("10: (the wind and the settings stay).");
        run("wind(2) = 0", "set(0, 9) = 3", "set(1, 3) = 2", "plant(2, 15) = 6", "about(3) = 2", "setting(0) = 9", "setting(1) = 3");

        sentence("10: stems: 2 to 6");
        run("plant(2, 0) = 0", "stands 00", "plant(3, 0) = 0", "stands 000", "plant(6, 0) = 0", "stands 000000", "plant(1, 0) ! Argument",
                "plant(7, 0) ! Argument", "plant(0, 0) ! Argument", "plant(-1, 0) ! Argument");

        sentence("10: hedge: the hedge as a number, 0 to 4 to the power of stems, less 1");
        run("plant(2, 15) = 6", "stands 33", "plant(3, 63) = 9", "stands 333", "plant(4, 255) = 12", "stands 3333", "plant(5, 1023) = 15",
                "stands 33333", "plant(6, 4095) = 18", "stands 333333");
        run("plant(2, 16) ! Argument", "plant(3, 64) ! Argument", "plant(4, 256) ! Argument", "plant(5, 1024) ! Argument",
                "plant(6, 4096) ! Argument", "plant(2, -1) ! Argument", "plant(6, -1) ! Argument");

        sentence("10: Returns all its leaves.");
        run("plant(6, 4095) = 18", "plant(6, 0) = 0", "plant(2, 1) = 1", "plant(2, 4) = 1", "plant(6, #300201) = 6");

        sentence("10: Throws IllegalArgumentException if an argument is out of range");
        run("plant(" + LEAST + ", 0) ! Argument", "plant(" + MOST + ", 0) ! Argument", "plant(4, " + LEAST + ") ! Argument",
                "plant(4, " + MOST + ") ! Argument", "plant(34, 5) ! Argument", "plant(-30, 5) ! Argument", "undo() ! State");
    }

    private static void clip() {
        sentence("11: The gardener who has the turn clips.");
        run("clip(0, 0, 2) = 3", "fines 3 0", "clips 1 0", "taken 2 0", "clip(1, 1, 2) = 3", "fines 3 3", "clips 1 1", "taken 2 2", "pass() = 1",
                "clip(2, 2, 2) = 3", "fines 3 6", "clips 1 2", "taken 2 4", "about(4) = 0");

        sentence("11: k: leaves, 1 to 3");
        run("hedge 333", "clip(0, 0, 1) = 0", "stands 233", "clip(1, 1, 2) = 0", "stands 213", "clip(2, 2, 3) = 3", "stands 210",
                "clip(0, 0, 0) ! Argument", "clip(0, 0, 4) ! Argument");

        sentence("11: Returns the fines that it brings.");
        run("clip(0, 0, 1) = 0", "clip(0, 0, 1) = 3", "clip(1, 2, 2) = 6", "set(0, 9) = 3", "clip(2, 3, 2) = 9", "fines 6 12");

        sentence("11: Throws IndexOutOfBoundsException if there is no such stem");
        run("clip(3, 3, 1) = 0", "clip(4, 4, 1) ! Index", "clip(3, 4, 1) ! Index", "clip(-1, -1, 1) ! Index", "clip(-1, 0, 1) ! Index",
                "clip(4, 3, 1) ! Index", "clip(0, -1, 1) ! Index", "clip(-1, 4, 0) ! Index");
        run("clip(" + LEAST + ", 0, 1) ! Index", "clip(" + MOST + ", 0, 1) ! Index", "clip(0, " + LEAST + ", 1) ! Index",
                "clip(0, " + MOST + ", 1) ! Index", "clip(" + LEAST + ", " + MOST + ", 1) ! Index");
        run("hedge 333333", "clip(5, 5, 1) = 0", "clip(5, 6, 1) ! Index", "hedge 33", "clip(1, 1, 1) = 0", "clip(1, 2, 1) ! Index");

        sentence("11: Throws IllegalArgumentException if k is out of range, to is less than from, or the stems are more than setting 1 tells");
        run("clip(0, 0, 0) ! Argument", "clip(0, 0, 4) ! Argument", "clip(0, 0, " + LEAST + ") ! Argument", "clip(0, 0, " + MOST + ") ! Argument",
                "clip(0, 0, 3) = 3", "clip(1, 1, 1) = 0");
        run("clip(1, 0, 1) ! Argument", "clip(3, 2, 1) ! Argument", "clip(3, 0, 1) ! Argument", "clip(2, 2, 1) = 0");
        run("clip(0, 2, 1) ! Argument", "clip(1, 3, 1) ! Argument", "clip(0, 1, 1) = 0", "set(1, 1) = 2", "clip(0, 1, 1) ! Argument",
                "clip(2, 3, 1) ! Argument", "clip(3, 3, 1) = 0", "set(1, 3) = 1", "clip(0, 3, 1) ! Argument", "clip(1, 3, 1) = 6");

        sentence("11: Throws IllegalStateException if none of these stems has leaves");
        run("hedge 3000", "set(1, 3) = 2", "clip(1, 1, 1) ! State", "clip(1, 2, 3) ! State", "clip(1, 3, 3) ! State", "clip(3, 3, 2) ! State",
                "clip(0, 2, 1) = 0");
        run("hedge 0003", "set(1, 3) = 2", "clip(0, 2, 1) ! State", "clip(1, 3, 1) = 0", "undo() = 2", "hedge 000000", "clip(0, 0, 1) ! State",
                "clip(5, 5, 3) ! State", "clip(3, 5, 3) ! State");
    }

    private static void otherActions() {
        sentence("12: Waters a stem: it has a leaf more.");
        run("hedge 012333", "water(0) = 1", "stands 112333", "about(4) = 0", "water(1) = 2", "stands 122333", "about(4) = 0", "clips 0 0", "about(5) = 0");
        run("hedge 000000", "water(5) = 1", "stands 000001", "water(0) = 1", "stands 100001", "fines 0 0");

        sentence("12: Returns its leaves then.");
        run("hedge 01", "water(0) = 1", "water(0) = 2", "water(0) = 3", "water(1) = 2", "water(1) = 3");

        sentence("12: Throws IndexOutOfBoundsException if there is no such stem");
        run("water(3) = 3", "water(4) ! Index", "water(-1) ! Index", "water(" + LEAST + ") ! Index", "water(" + MOST + ") ! Index");
        run("hedge 22", "water(2) ! Index", "water(1) = 3", "hedge 222222", "water(6) ! Index", "water(5) = 3");

        sentence("12: Throws IllegalStateException if it has 3 leaves");
        run("hedge 323", "water(0) ! State", "water(2) ! State", "water(1) = 3", "water(1) ! State", "stands 333");

        sentence("13: wind: 0 to 2");
        run("wind(0) = 0", "wind(1) = 0", "wind(2) = 1", "about(3) = 2", "wind(0) = 2", "about(3) = 0");

        sentence("13: Returns the previous one.");
        run("wind(2) = 0", "wind(2) = 2", "wind(1) = 2", "wind(0) = 1", "wind(0) = 0");

        sentence("13: Throws IllegalArgumentException if wind is out of range");
        run("wind(-1) ! Argument", "wind(3) ! Argument", "wind(" + LEAST + ") ! Argument", "wind(" + MOST + ") ! Argument", "undo() ! State");

        sentence("14: The one who has the turn leaves it out; the other one has it then.");
        run("pass() = 1", "clip(0, 0, 1) = 0", "clips 0 1", "pass() = 1", "pass() = 0", "clips 0 1", "stands 1222", "fines 0 0");
        run("hedge 00", "pass() = 1", "about(4) = 1", "pass() = 0", "about(5) = 0");

        sentence("14: Returns the gardener who has the turn then.");
        run("pass() = 1", "pass() = 0", "pass() = 1", "about(4) = 1");

        sentence("15: what: 0 or 1");
        run("set(0, 2) = 3", "setting(0) = 2", "setting(1) = 2", "set(1, 3) = 2", "setting(0) = 2", "setting(1) = 3", "set(0, 5) = 2", "setting(0) = 5", "setting(1) = 3", "set(-1, 2) ! Argument",
                "set(2, 2) ! Argument");

        sentence("15: v: the new value, in its range");
        run("set(0, 1) = 3", "set(0, 9) = 1", "set(1, 1) = 2", "set(1, 3) = 1", "setting(0) = 9", "setting(1) = 3", "set(0, 4) = 9", "set(0, 3) = 4");

        sentence("15: Returns the previous one.");
        run("set(0, 5) = 3", "set(0, 5) = 5", "set(1, 1) = 2", "set(1, 1) = 1", "set(0, 1) = 5", "set(1, 2) = 1");

        sentence("15: Throws IllegalArgumentException if what or v is out of range");
        run("set(-1, 1) ! Argument", "set(2, 1) ! Argument", "set(" + LEAST + ", 1) ! Argument", "set(" + MOST + ", 1) ! Argument", "undo() ! State");
        run("set(0, 0) ! Argument", "set(0, 10) ! Argument", "set(0, -1) ! Argument", "set(0, " + LEAST + ") ! Argument",
                "set(0, " + MOST + ") ! Argument");
        run("set(1, 0) ! Argument", "set(1, 4) ! Argument", "set(1, 9) ! Argument", "set(1, -1) ! Argument", "set(1, " + LEAST + ") ! Argument",
                "set(1, " + MOST + ") ! Argument");
    }

    private static void undo() {
        sentence("16: Takes back the last action that is remembered.");
        run("set(0, 5) = 3", "clip(0, 1, 2) = 10", "mark", "water(0) = 1", "clip(1, 2, 3) = 5", "undo() = 3", "stands 1022", "undo() = 2",
                "marked", "undo() = 1", "stands 2222", "fines 0 0", "about(4) = 0", "setting(0) = 5", "undo() = 0", "setting(0) = 3");
        run("pass() = 1", "undo() = 0", "about(4) = 0", "wind(1) = 0", "undo() = 0", "about(3) = 0");

        sentence("16: Returns how many states are still remembered.");
        run("pass() = 1", "undo() = 0", "pass() = 1", "pass() = 0", "undo() = 1", "undo() = 0");
        run("13 times pass()", "undo() = 12", "pass() = 1", "pass() = 0", "undo() = 13", "pass() = 0", "pass() = 1", "undo() = 13", "undo() = 12");
        run("100 times pass()", "undo() = 13", "12 times undo()", "undo() = 0");

        sentence("16: Throws IllegalStateException if none is remembered");
        run("undo() ! State", "pass() = 1", "undo() = 0", "undo() ! State", "15 times pass()", "14 times undo()", "about(4) = 1", "undo() ! State");
        run("text H22p", "pass() = 1", "load() = 0", "undo() ! State", "pass() = 0", "save(0) = 0", "restore(0) = 0", "undo() ! State");
    }

    private static void ifClipped() {
        sentence("17: k: leaves, 1 to 3");
        run("hedge 333", "ifClipped(0, 0, 1, 1) = #233", "ifClipped(1, 1, 2, 1) = #313", "ifClipped(2, 2, 3, 1) = #330",
                "ifClipped(0, 0, 0, 1) ! Argument", "ifClipped(0, 0, 4, 1) ! Argument");

        sentence("17: 0: the fines that it would bring;");
        run("ifClipped(0, 0, 1, 0) = 0", "ifClipped(0, 0, 2, 0) = 3", "ifClipped(0, 1, 3, 0) = 6", "set(0, 9) = 3", "ifClipped(2, 3, 2, 0) = 18",
                "set(0, 1) = 9", "ifClipped(2, 3, 2, 0) = 2");
        run("hedge 111101", "wind(1) = 0", "set(1, 3) = 2", "set(0, 9) = 3", "ifClipped(0, 2, 1, 0) = 45", "fines 0 0", "stands 111101");

        sentence("17: 1: the hedge behind it, as a number;");
        run("hedge 333333", "ifClipped(0, 0, 1, 1) = 4094", "ifClipped(5, 5, 3, 1) = 1023", "ifClipped(4, 5, 3, 1) = 255");
        run("hedge 01", "ifClipped(1, 1, 3, 1) = 0", "ifClipped(0, 1, 1, 1) = 0", "hedge 0111", "wind(1) = 0", "ifClipped(3, 3, 2, 1) = #0010");

        sentence("17: 2: 100 and the worth of that hedge (for the other gardener), together;");
        run("hedge 20", "ifClipped(0, 0, 1, 2) = 97", "ifClipped(0, 0, 2, 2) = 100", "set(0, 9) = 3", "ifClipped(0, 0, 1, 2) = 91");
        run("hedge 30", "ifClipped(0, 0, 1, 2) = 103", "ifClipped(0, 0, 2, 2) = 97", "pass() = 1", "ifClipped(0, 0, 2, 2) = 97");
        // 020203 leaves 010101 to the other one, which goes by one clip.
        run("hedge 020203", "wind(1) = 0", "set(1, 1) = 2", "set(0, 9) = 3", "ifClipped(5, 5, 1, 2) = 73");

        sentence("17: 3: the leaves that the wind would take");
        run("hedge 203020", "ifClipped(0, 0, 1, 3) = 0", "wind(1) = 0", "ifClipped(0, 0, 1, 3) = 2", "wind(2) = 1", "ifClipped(2, 2, 1, 3) = 3",
                "ifClipped(0, 0, 2, 3) = 2", "stands 203020");
        run("hedge 3333", "wind(1) = 0", "ifClipped(3, 3, 3, 3) = 0", "ifClipped(0, 0, 2, 3) = 0", "ifClipped(0, 0, 3, 3) = 1");

        sentence("17: Returns that number; NONE if the clip is not possible.");
        run("hedge 100", "ifClipped(1, 1, 1, 0) = NONE", "ifClipped(1, 2, 3, 1) = NONE", "ifClipped(2, 2, 1, 2) = NONE",
                "ifClipped(2, 2, 1, 3) = NONE", "ifClipped(0, 1, 1, 0) = 3");
        run("hedge 00", "ifClipped(0, 1, 3, 0) = NONE", "ifClipped(0, 0, 1, 1) = NONE");

        sentence("17: Throws IndexOutOfBoundsException if there is no such stem");
        run("ifClipped(4, 4, 1, 0) ! Index", "ifClipped(3, 4, 1, 0) ! Index", "ifClipped(-1, 0, 1, 0) ! Index", "ifClipped(0, -1, 1, 0) ! Index",
                "ifClipped(4, 3, 1, 0) ! Index", "ifClipped(4, 4, 0, 4) ! Index", "ifClipped(3, 3, 1, 0) = 0");
        run("ifClipped(" + LEAST + ", 0, 1, 0) ! Index", "ifClipped(" + MOST + ", 0, 1, 0) ! Index", "ifClipped(0, " + LEAST + ", 1, 0) ! Index",
                "ifClipped(0, " + MOST + ", 1, 0) ! Index");

        sentence("17: Throws IllegalArgumentException if k or what is out of range, to is less than from,"
                + " or the stems are more than setting 1 tells");
        run("ifClipped(0, 0, 0, 0) ! Argument", "ifClipped(0, 0, 4, 0) ! Argument", "ifClipped(0, 0, " + LEAST + ", 0) ! Argument",
                "ifClipped(0, 0, " + MOST + ", 0) ! Argument", "ifClipped(0, 0, 3, 0) = 3");
        run("ifClipped(0, 0, 1, -1) ! Argument", "ifClipped(0, 0, 1, 4) ! Argument", "ifClipped(0, 0, 1, " + LEAST + ") ! Argument",
                "ifClipped(0, 0, 1, " + MOST + ") ! Argument");
        run("ifClipped(1, 0, 1, 0) ! Argument", "ifClipped(3, 0, 1, 0) ! Argument", "ifClipped(0, 2, 1, 0) ! Argument",
                "ifClipped(1, 3, 1, 0) ! Argument", "set(1, 3) = 2", "ifClipped(0, 2, 1, 0) = 0", "ifClipped(0, 3, 1, 0) ! Argument");
        run("hedge 0022", "ifClipped(0, 0, 4, 0) ! Argument", "ifClipped(0, 0, 1, 4) ! Argument", "ifClipped(1, 0, 1, 0) ! Argument",
                "ifClipped(0, 0, 1, 0) = NONE");
    }

    private static void worths() {
        sentence("18: Returns 100 and its worth for the gardener who has the turn, together.");
        run("hedge 00", "worth() = 100", "hedge 10", "worth() = 97", "set(0, 1) = 3", "worth() = 99", "set(0, 9) = 1", "worth() = 91", "pass() = 1",
                "worth() = 91", "hedge 20", "worth() = 109", "pass() = 1", "worth() = 109");
        run("hedge 010101", "wind(1) = 0", "set(1, 1) = 2", "set(0, 9) = 3", "worth() = 73", "hedge 020203", "worth() = 127");

        sentence("19: Returns its number; NONE if the hedge is over.");
        run("bestClip() = 1", "hedge 00", "bestClip() = NONE", "water(1) = 1", "bestClip() = 11", "set(1, 1) = 2", "bestClip() = 111");
        run("hedge 000000", "bestClip() = NONE", "hedge 000002", "set(1, 1) = 2", "bestClip() = 551", "clip(5, 5, 2) = 3", "bestClip() = NONE");

        sentence("20: Returns how many clips there are with which the worth is greatest; 0 if the hedge is over.");
        run("hedge 00", "bestClips() = 0", "hedge 000000", "bestClips() = 0");
        run("set(1, 1) = 2", "hedge 20", "bestClips() = 1", "hedge 30", "bestClips() = 1", "hedge 10", "bestClips() = 3", "hedge 11",
                "bestClips() = 6", "hedge 22", "bestClips() = 2");
        run("set(1, 3) = 2", "hedge 333333", "bestClips() = 30", "hedge 000001", "bestClips() = 9");
    }

    private static void goesOn() {
        sentence("21: n: 1 to 18");
        // One stem behind the other, each leaf by itself: 18 clips.
        run("hedge 333333", "set(1, 1) = 2", "goesOn(1, 0) = #233333", "goesOn(2, 0) = #133333", "goesOn(17, 0) = #000001", "goesOn(18, 0) = 0");

        sentence("21: 0: the hedge behind n clips, or when it is over, as a number;");
        run("hedge 22", "goesOn(1, 0) = #12", "goesOn(2, 0) = #01", "goesOn(3, 0) = 0", "goesOn(4, 0) = 0", "goesOn(18, 0) = 0");
        run("hedge 30", "goesOn(1, 0) = #10", "goesOn(2, 0) = 0", "hedge 000003", "goesOn(1, 0) = #000001", "goesOn(2, 0) = 0");
        run("hedge 00", "goesOn(1, 0) = 0", "hedge 010101", "wind(1) = 0", "goesOn(1, 0) = 0", "stands 010101");

        sentence("21: 1: the clips until it is over, at most n");
        run("hedge 22", "goesOn(1, 1) = 1", "goesOn(2, 1) = 2", "goesOn(3, 1) = 3", "goesOn(4, 1) = 3", "goesOn(18, 1) = 3");
        run("hedge 30", "goesOn(1, 1) = 1", "goesOn(2, 1) = 2", "goesOn(3, 1) = 2", "hedge 000003", "goesOn(2, 1) = 2", "goesOn(3, 1) = 2");
        run("hedge 333333", "set(1, 1) = 2", "goesOn(17, 1) = 17", "goesOn(18, 1) = 18", "hedge 00", "goesOn(1, 1) = 0", "goesOn(18, 1) = 0");

        sentence("21: Throws IllegalArgumentException if n or what is out of range");
        run("goesOn(0, 0) ! Argument", "goesOn(19, 0) ! Argument", "goesOn(-1, 1) ! Argument", "goesOn(" + LEAST + ", 0) ! Argument",
                "goesOn(" + MOST + ", 1) ! Argument");
        run("goesOn(1, -1) ! Argument", "goesOn(1, 2) ! Argument", "goesOn(18, " + LEAST + ") ! Argument", "goesOn(18, " + MOST + ") ! Argument");
        run("hedge 00", "goesOn(0, 0) ! Argument", "goesOn(1, 2) ! Argument");
    }

    private static void bestWater() {
        sentence("22: Returns of the stems with fewer than 3 leaves");
        run("hedge 33", "bestWater() = NONE", "hedge 333333", "bestWater() = NONE");
        // If the stem 0 could be watered, its next leaf would be counted as one of the stem 1, and that would help.
        run("hedge 31", "set(1, 1) = 2", "bestWater() = NONE", "hedge 313", "wind(1) = 0", "bestWater() = 1");

        sentence("22: the one that, watered, makes the worth of the hedge greatest for the one who has the turn");
        run("hedge 10", "bestWater() = 0", "hedge 01", "bestWater() = 1", "hedge 000001", "bestWater() = 5", "hedge 000010", "bestWater() = 4",
                "pass() = 1", "bestWater() = 4");
        // Each water is of use, but the last stem's two leaves are of more.
        run("hedge 01", "set(1, 1) = 2", "worth() = 97", "water(0) = 1", "worth() = 100", "undo() = 2", "water(1) = 2", "worth() = 103",
                "undo() = 2", "bestWater() = 1");

        sentence("22: of several the lowest");
        run("hedge 111", "set(1, 1) = 2", "bestWater() = 0", "hedge 0111", "bestWater() = 1");
        run("hedge 000002", "wind(1) = 0", "bestWater() = 5", "hedge 000010", "bestWater() = 0");

        sentence("22: if it is greater than it is now; NONE if there is none.");
        run("hedge 20", "set(1, 1) = 2", "worth() = 103", "water(0) = 3", "worth() = 103", "undo() = 2", "bestWater() = NONE");
        run("hedge 11", "bestWater() = NONE", "hedge 22", "bestWater() = NONE", "bestWater() = NONE", "stands 22");
        run("hedge 00", "bestWater() = NONE", "hedge 000000", "bestWater() = NONE");
    }

    private static void winner() {
        sentence("23: if both clip as well as they can from now on.");
        // The one ahead takes a leaf alone, or two of three, and leaves the bare stem to the other one.
        run("set(1, 1) = 2", "hedge 20", "winner() = 0", "clip(0, 0, 1) = 0", "winner() = 0", "clip(0, 0, 1) = 3", "winner() = 0");
        run("set(1, 1) = 2", "hedge 30", "winner() = 0", "clip(0, 0, 1) = 0", "winner() = 1", "clip(0, 0, 1) = 0", "winner() = 1");
        run("hedge 010101", "wind(1) = 0", "winner() = 1", "wind(0) = 1", "winner() = 1", "hedge 111111", "winner() = 2");

        sentence("23: Returns the gardener with fewer fines, all that were got so far too;");
        run("hedge 10", "winner() = 1", "pass() = 1", "winner() = 0", "hedge 20", "winner() = 0", "pass() = 1", "winner() = 1");
        // What was paid before outweighs, by one, what is to come.
        run("hedge 12", "set(1, 1) = 2", "set(0, 4) = 3", "clip(0, 0, 1) = 4", "winner() = 1", "set(0, 5) = 4", "winner() = 1", "pass() = 0",
                "set(0, 3) = 5", "winner() = 1", "set(0, 5) = 3", "winner() = 0");
        run("hedge 10", "clip(0, 0, 1) = 3", "winner() = 1", "pass() = 0", "winner() = 1");
        run("hedge 01", "pass() = 1", "clip(1, 1, 1) = 3", "winner() = 0", "pass() = 1", "winner() = 0");

        sentence("23: 2 if both get as many.");
        run("winner() = 2", "pass() = 1", "winner() = 2", "hedge 00", "winner() = 2", "hedge 11", "winner() = 2");
        run("hedge 11", "clip(0, 0, 1) = 3", "winner() = 2", "clip(1, 1, 1) = 3", "winner() = 2", "pass() = 1", "winner() = 2");
        run("hedge 11", "clip(0, 0, 1) = 3", "set(0, 2) = 3", "winner() = 1", "set(0, 3) = 2", "winner() = 2", "set(0, 4) = 3", "winner() = 0");
    }

    private static String[] scripts(String answer, int n, String... scripts) {
        String[] rows = new String[scripts.length];
        for (int i = 0; i < rows.length; i++) {
            rows[i] = "runScript(" + n + ", " + scripts[i].replace("_", "") + ") = " + answer;
        }
        return rows;
    }

    private static String[] succeed(String... groups) {
        return scripts("NONE", 1, groups);
    }

    private static String[] fail(String... groups) {
        return scripts("0", 1, groups);
    }

    private static void runScript() {
        sentence("24: Runs a script on a copy of the state.");
        run("hedge 2132", "wind(1) = 0", "set(0, 9) = 3", "pass() = 1", "mark", "runScript(3, 111150004000) = NONE", "marked",
                "runScript(3, 200030014000) = NONE", "marked", "undo() = 3");
        run(rows("hedge 2132", "set(0, 5) = 3", "clip(1, 1, 1) = 5", succeed("6005", "7100", "6100"), fail("6004", "7101")));
        run("hedge 22", "runScript(1, 1002) = NONE", "runScript(1, 7002) = NONE", "runScript(1, 6000) = NONE");

        sentence("24: A script has 1 to 3 commands;");
        run("runScript(0, 0) ! Argument", "runScript(1, 4000) = NONE", "runScript(2, 40004000) = NONE", "runScript(3, 400040004000) = NONE",
                "runScript(4, 4000400040004000) ! Argument", "runScript(4, 0) ! Argument");

        sentence("24: n: number of commands, 1 to 3");
        run("runScript(1, 4000) = NONE", "runScript(2, 40005000) = NONE", "runScript(3, 400050004000) = NONE", "runScript(0, 0) ! Argument",
                "runScript(4, 400050004000) ! Argument");

        sentence("24: each is a group of four decimal digits d1 to d4, and the first command is the highest group of the number"
                + " (with zeros before it, if it has fewer digits).");
        run(rows("hedge 2132", scripts("NONE", 2, "1111_7100", "1002_7000"), scripts("0", 2, "7100_1111", "7000_1002"),
                scripts("NONE", 3, "2300_7303_4000", "4000_2300_7303"), scripts("0", 3, "7303_2300_4000"), scripts("1", 3, "4000_7303_2300")));
        run(rows(scripts("0", 2, "4000", "0", "1"), scripts("0", 3, "4000", "4000_4000", "0"), scripts("1", 2, "4000_0000"),
                scripts("1", 3, "4000_0000_4000"), scripts("2", 3, "4000_4000_0000")));

        sentence("24: 1 f t k: clip(f, t, k).");
        run(rows("hedge 333333", succeed("1001", "1003", "1011", "1551", "1553", "1451", "1342"),
                fail("1000", "1004", "1009", "1101", "1541", "1021", "1351", "1561", "1661", "1991", "1601")));
        run(rows("hedge 333333", "set(1, 3) = 2", succeed("1021", "1353"), fail("1031", "1251", "1051"), "set(1, 1) = 3", succeed("1551"),
                fail("1451", "1011")));
        run(rows("hedge 0033", succeed("1121", "1221"), fail("1001", "1011", "1113", "1341", "1441"), scripts("NONE", 2, "1233_7200"),
                scripts("1", 2, "1233_7201", "1333_1331")));

        sentence("24: 2 i 0 0: water(i).");
        run(rows("hedge 012222", succeed("2000", "2100", "2500"), fail("2600", "2900", "2001", "2010", "2009", "2090"),
                scripts("NONE", 3, "2500_7503_4000"), scripts("1", 2, "2500_2500")));
        run(rows(succeed("2300"), fail("2400"), "hedge 23", succeed("2000"), fail("2100", "2200")));

        sentence("24: 3 0 0 w: wind(w).");
        run(rows(succeed("3000", "3001", "3002"), fail("3003", "3009", "3010", "3100", "3101", "3012")));
        run(rows("hedge 1111", scripts("NONE", 3, "3001_1001_7100", "3002_1331_7200", "3001_1331_7201"),
                scripts("2", 3, "3000_1001_7100", "3002_1001_7100")));

        sentence("24: 4 0 0 0: pass().");
        run(rows(succeed("4000"), fail("4001", "4010", "4100", "4009", "4090", "4900")));
        run(rows("hedge 10", scripts("NONE", 3, "4000_1001_6000", "4000_1001_6103"), scripts("2", 3, "4000_1001_6102"),
                scripts("1", 2, "1001_6000"), scripts("NONE", 3, "4000_4000_9001"), scripts("NONE", 2, "4000_9000")));

        sentence("24: 5 0 0 0: the best clip is clipped; fails if the hedge is over.");
        run(rows("hedge 30", succeed("5000"), fail("5001", "5010", "5100"), scripts("NONE", 2, "5000_7001", "5000_5000"),
                scripts("2", 3, "5000_5000_5000"), scripts("1", 2, "5000_7002")));
        run(rows("hedge 00", fail("5000"), scripts("NONE", 2, "2000_5000"), "hedge 01", succeed("5000"), scripts("1", 2, "5000_5000")));

        sentence("24: 6 g f f: succeeds if the gardener g has at most ff fines.");
        run(rows(succeed("6000", "6100", "6099", "6199", "6001"), fail("6200", "6300", "6999", "6299")));
        run(rows("set(0, 7) = 3", "clip(0, 0, 2) = 7", succeed("6007", "6008", "6099", "6100"), fail("6006", "6000"), "pass() = 0", "pass() = 1",
                "clip(1, 2, 2) = 14", succeed("6114", "6115", "6007"), fail("6113", "6106", "6104")));
        run(rows("set(0, 9) = 3", "set(1, 3) = 2", "hedge 333333", "clip(0, 2, 3) = 27", "pass() = 0", "clip(3, 5, 3) = 27", "pass() = 0",
                "water(0) = 1", "water(1) = 1", "water(2) = 1", "clip(0, 2, 1) = 27", "pass() = 0", "water(0) = 1", "water(1) = 1",
                "clip(0, 1, 1) = 18", "fines 99 0", succeed("6099"), fail("6098"), "pass() = 0", "water(2) = 1", "clip(2, 2, 1) = 9",
                "fines 108 0", fail("6099", "6008")));

        sentence("24: 7 i 0 l: succeeds if the stem i has just l leaves.");
        run(rows("hedge 012333", succeed("7000", "7101", "7202", "7303", "7503"), fail("7001", "7100", "7102", "7201", "7203", "7302", "7304", "7309")));
        run(rows("hedge 012333", fail("7600", "7603", "7900", "7010", "7111", "7513"), "hedge 33", succeed("7103"), fail("7203", "7200")));

        sentence("24: 8 0 b b: succeeds if worth() is at least 100 less bb.");
        run(rows("hedge 00", succeed("8000", "8001", "8099"), "hedge 10", succeed("8003", "8004", "8099"), fail("8002", "8000", "8103", "8903"),
                "hedge 20", succeed("8000", "8099"), fail("8100")));
        run(rows("set(0, 1) = 3", "hedge 10", "worth() = 99", succeed("8001", "8002"), fail("8000"), "hedge 20", "worth() = 101", succeed("8000")));
        run(rows("hedge 010101", "wind(1) = 0", "set(1, 1) = 2", "set(0, 9) = 3", succeed("8027", "8028"), fail("8026", "8000")));

        sentence("24: 9 0 0 g: succeeds if winner() is g (which may be 2).");
        run(rows(succeed("9002"), fail("9000", "9001", "9003", "9009", "9012", "9102"), "hedge 10", succeed("9001"),
                fail("9000", "9002", "9011", "9101"), "hedge 20", succeed("9000"), fail("9001", "9002", "9010", "9100", "9090")));
    }

    private static void runScriptAnswers() {
        sentence("24: The commands 1 to 4 fail if the method would throw an exception;");
        run(rows("hedge 0133", fail("1001", "1000", "1004", "1101", "1021", "2200", "2300", "3003"), succeed("1011", "2000", "2100", "3002", "4000")));

        sentence("24: commands with stems or gardeners that do not exist fail,");
        run(rows("hedge 22", succeed("1111", "2100", "7102", "6100"), fail("1121", "1221", "1211", "2200", "7200", "7202", "6200", "6299", "6900")));
        run(rows("hedge 222222", succeed("1551", "2500", "7502"), fail("1561", "1661", "1651", "2600", "7600", "7602")));

        sentence("24: and so does any other group (also one with another digit where a 0 is written).");
        run(rows(fail("0", "1", "9", "10", "99", "100", "999", "111"), fail("2001", "2010", "3010", "3100", "4001", "4010", "4100")));
        run(rows(fail("5001", "5010", "5100", "7012", "7092", "8100", "8900", "9012", "9102", "9902"), succeed("7002", "8000", "9002")));

        sentence("24: ff and bb are decimal numbers.");
        run(rows("set(0, 5) = 3", "clip(0, 1, 2) = 10", succeed("6010", "6011", "6020"), fail("6009", "6001", "6005")));
        run(rows("hedge 0011", "wind(1) = 0", "set(1, 1) = 2", "set(0, 9) = 3", "worth() = 82", succeed("8018", "8020"), fail("8017", "8010", "8009")));

        sentence("24: script: the commands, a number of at most 4 * n digits (0 or more)");
        run("runScript(1, 0) = 0", "runScript(1, 9999) = 0", "runScript(1, 10000) ! Argument", "runScript(2, 10000) = 0",
                "runScript(2, 99999999) = 0", "runScript(2, 100000000) ! Argument", "runScript(3, 100000000) = 0",
                "runScript(3, 999999999999) = 0", "runScript(3, 1000000000000) ! Argument");

        sentence("24: Returns the index, from 0, of the first command that fails; NONE if all succeed.");
        run(rows(scripts("0", 3, "0_4000_4000", "1004_0000_0000", "5001_4000_6200"), scripts("1", 3, "4000_0000_0000", "4000_6200_4000"),
                scripts("2", 3, "4000_4000_0000", "4000_4000_6200"), scripts("NONE", 3, "4000_4000_4000"), scripts("1", 2, "4000_0000"),
                scripts("NONE", 2, "4000_4000")));

        sentence("24: Throws IllegalArgumentException if n is out of range, or if script is negative or has more than 4 * n digits");
        run("runScript(0, 0) ! Argument", "runScript(0, 4000) ! Argument", "runScript(-1, 4000) ! Argument", "runScript(4, 4000) ! Argument",
                "runScript(" + LEAST + ", 4000) ! Argument", "runScript(" + MOST + ", 4000) ! Argument");
        run("runScript(1, -1) ! Argument", "runScript(1, -4000) ! Argument", "runScript(3, -1) ! Argument",
                "runScript(3, " + Long.MIN_VALUE + ") ! Argument", "runScript(3, " + Long.MAX_VALUE + ") ! Argument",
                "runScript(1, " + ((1L << 32) + 4000) + ") ! Argument", "runScript(1, " + (Long.MIN_VALUE + 4000) + ") ! Argument");
        run("runScript(1, 40004000) ! Argument", "runScript(2, 400040004000) ! Argument", "runScript(1, 10000) ! Argument");
    }

    private static final long TIMES = 6364136223846793005L;
    private static final long MORE = 1442695040888963407L;

    /** The seed that the first turn replaces by x. */
    private static long seedAhead(long x) {
        long inverse = 1;
        for (int i = 0; i < 6; i++) {
            inverse *= 2 - TIMES * inverse;
        }
        return (x - MORE) * inverse;
    }

    /** A simulation whose first turn draws this q and this remainder of r by 8. */
    private static String turn(int q, int kind, long answer) {
        return "simulate(" + seedAhead((8L * q + kind) << 33) + ", 1) = " + answer;
    }

    /** A simulation of two turns: the first draws these, the second a clip of these arguments. */
    private static String turns(int q, int kind, int from, int to, int k, long answer) {
        IntPredicate isClip = r -> r % 8 > 2 && r / 8 % 6 == from && r / 64 % 3 == to - from && r / 256 % 3 == k - 1;
        long first = (8L * q + kind) << 33;
        for (long low = 0; low < 1L << 33; low++) {
            if (isClip.test((int) (((first + low) * TIMES + MORE) >>> 33))) {
                return "simulate(" + seedAhead(first + low) + ", 2) = " + answer;
            }
        }
        throw new AssertionError("no such seed");
    }

    private static void simulate() {
        sentence("25: Simulates m turns on a copy of the state.");
        run("hedge 333333", "wind(1) = 0", "set(0, 9) = 3", "pass() = 1", "mark", "simulate(1, 60)", "marked", "simulate(-1, 60)", "marked", "undo() = 3");
        run("hedge 333333", "set(1, 3) = 2", "simulate(-9223372036854775808, 59) = 110024", "simulate(-9223372036854775808, 60) = 120025");
        run("hedge 333333", "set(1, 3) = 2", "simulate(3, 59) = 80045", "simulate(3, 60) = 90050", "simulate(3, 60) = 90050");
        // The copy has the wind, the settings and the stems of now.
        run("hedge 11", turn(0, 3, 10003), "set(0, 9) = 3", turn(0, 3, 10009), "wind(1) = 0", turn(0, 3, 10018), "hedge 01", turn(0, 3, 0));

        sentence("25: A long x starts as the seed. Each turn first replaces x by x * 6364136223846793005L + 1442695040888963407L (with long overflow)");
        run("hedge 333333", "set(1, 3) = 2", "simulate(0, 60) = 140042", "simulate(1, 60) = 100066", "simulate(-1, 60) = 90039",
                "simulate(9223372036854775807, 60) = 110036");
        run("simulate(0, 60) = 70021", "simulate(1, 60) = 40024", "simulate(-1, 60) = 50028", "simulate(9223372036854775807, 60) = 70025",
                "simulate(-9223372036854775808, 60) = 50014");

        sentence("25: and r = (int) (x >>> 33) is computed.");
        // The greatest r is 2147483647, of clip(3, 4, 2); behind it are those of clip(2, 3, 2), and of clip(1, 1, 1) with a bit less.
        run("hedge 220022", "simulate(" + seedAhead(-1) + ", 1) = 10003", turn((1 << 28) - 1, 7, 10003), turn((1 << 28) - 2, 7, 0),
                turn((1 << 27) - 1, 7, 10000));

        sentence("25: q is r / 8. By r % 8: 0: water(q % 6).");
        run("hedge 000000", turns(0, 0, 0, 0, 1, 10003), turns(5, 0, 5, 5, 1, 10003), turns(6, 0, 0, 0, 1, 10003), turns(7, 0, 1, 1, 1, 10003),
                turns(7, 0, 0, 0, 1, 0), turns(11, 0, 5, 5, 1, 10003), turn(0, 0, 0));
        run("hedge 00", turns(1, 0, 1, 1, 1, 10003), turns(2, 0, 0, 0, 1, 0), turns(3, 0, 1, 1, 1, 0), turns(6, 0, 0, 0, 1, 10003));

        sentence("25: 1: wind(q % 3).");
        run("hedge 11", turns(0, 1, 0, 0, 1, 10003), turns(1, 1, 0, 0, 1, 10006), turns(2, 1, 0, 0, 1, 10003), turns(2, 1, 1, 1, 1, 10006),
                turns(3, 1, 0, 0, 1, 10003), turns(4, 1, 0, 0, 1, 10006), turns(1, 1, 1, 1, 1, 10003), turn(1, 1, 0));
        run("hedge 11", "wind(1) = 0", turns(3, 1, 0, 0, 1, 10003), turns(5, 1, 1, 1, 1, 10006));

        sentence("25: 2: pass(), if q % 4 is 0, otherwise set(0, 1 + q % 9).");
        run("hedge 11", turns(0, 2, 0, 0, 1, 10003), turns(4, 2, 0, 0, 1, 10003), turns(8, 2, 0, 0, 1, 10003), turns(1, 2, 0, 0, 1, 10002),
                turns(2, 2, 0, 0, 1, 10003), turns(3, 2, 0, 0, 1, 10004), turns(5, 2, 0, 0, 1, 10006), turns(9, 2, 0, 0, 1, 10001),
                turns(17, 2, 0, 0, 1, 10009), turns(18, 2, 0, 0, 1, 10001), turns(26, 2, 0, 0, 1, 10009), turn(17, 2, 0));

        sentence("25: Otherwise: clip(q % 6, q % 6 + q / 8 % 3, 1 + q / 32 % 3).");
        run("hedge 111111", "set(1, 3) = 2", turn(0, 3, 10003), turn(0, 4, 10003), turn(0, 5, 10003), turn(0, 6, 10003), turn(0, 7, 10003),
                turn(5, 3, 10003), turn(6, 3, 10003), turn(8, 3, 10006), turn(14, 3, 10006), turn(16, 3, 0), turn(18, 3, 10009), turn(24, 3, 10003));
        // The clips (0, 0, 1), (0, 0, 2), (0, 0, 3), and again (0, 0, 1); (2, 3, 2), (0, 2, 3).
        run("hedge 300000", turn(0, 3, 10000), turn(48, 3, 10000), turn(72, 3, 10003), turn(96, 3, 10000), "hedge 200000", turn(0, 3, 10000),
                turn(48, 3, 10003), turn(72, 3, 10003), turn(96, 3, 10000));
        run("hedge 222222", "set(1, 3) = 2", turn(32, 3, 10006), "hedge 333333", turn(32, 3, 10000), turn(66, 3, 10009), turn(18, 3, 10000));

        sentence("25: What would throw an exception is left out.");
        run("hedge 11", turn(2, 3, 0), turn(5, 3, 0), turn(9, 3, 0), turn(18, 3, 0), turn(1, 3, 10003), "hedge 10", turn(1, 3, 0), turn(0, 3, 10003));
        run("hedge 111", turn(18, 3, 0), "set(1, 3) = 2", turn(18, 3, 10009), "set(1, 1) = 3", turn(18, 3, 0), turn(0, 3, 10003));
        run("hedge 30", turns(0, 0, 0, 0, 3, 10003), turns(0, 0, 1, 1, 1, 0), turns(2, 0, 0, 0, 3, 10003), turns(5, 0, 1, 1, 1, 0));

        sentence("25: seed: any long");
        run("simulate(0, 1) = 0", "simulate(-9223372036854775808, 1) = 10003", "simulate(9223372036854775807, 1) = 0", "simulate(-1, 1) = 0");

        sentence("25: m: number of turns, 1 to 60");
        run("simulate(-9223372036854775808, 1) = 10003", "simulate(-9223372036854775808, 60) = 50014", "simulate(5, 0) ! Argument", "simulate(5, 61) ! Argument");

        sentence("25: Returns 10000 * (the clips in the turns) + (the fines of both in the turns, or 9999 if they are more).");
        run("hedge 1111", "clip(0, 0, 1) = 3", "clip(1, 1, 1) = 3", turn(0, 1, 0), turn(2, 3, 10003), turn(3, 3, 10003), turns(2, 3, 3, 3, 1, 20006),
                turns(4, 2, 2, 2, 1, 10003), turns(3, 3, 0, 0, 1, 10003));
        // No turn brings more than 45 fines, so more than 9999 can't be; these are many.
        run("hedge 333333", "wind(1) = 0", "set(0, 9) = 3", "set(1, 3) = 2", "simulate(10545, 60) = 120159");

        sentence("25: Throws IllegalArgumentException if m is out of range");
        run("simulate(0, 0) ! Argument", "simulate(0, 61) ! Argument", "simulate(0, -1) ! Argument", "simulate(0, " + LEAST + ") ! Argument",
                "simulate(0, " + MOST + ") ! Argument", "simulate(" + Long.MIN_VALUE + ", 61) ! Argument");
    }

    private static void slots() {
        sentence("26: Stores the present state in a save slot.");
        run("wind(2) = 0", "set(0, 9) = 3", "set(1, 3) = 2", "hedge 333333", "clip(0, 2, 3) = 27", "clip(3, 3, 1) = 0", "pass() = 1", "mark",
                "save(1) = 2", "marked", "plant(2, 5) = 2", "wind(0) = 2", "set(0, 1) = 9", "set(1, 1) = 3", "clip(0, 0, 1) = 1", "restore(1) = 2", "marked");
        run("pass() = 1", "save(0) = 0", "pass() = 0", "save(0) = 0", "wind(1) = 0", "restore(0) = 0", "about(4) = 0", "about(3) = 0");
        run("save(0) = 0", "clip(0, 0, 1) = 0", "clip(0, 0, 1) = 3", "restore(0) = 0", "stands 2222", "clips 0 0", "fines 0 0", "taken 0 0");
        run("clip(0, 0, 1) = 0", "save(0) = 1", "clip(0, 0, 1) = 3", "save(0) = 2", "hedge 33", "restore(0) = 2", "stands 0222", "hedge 33",
                "save(0) = 0", "pass() = 1", "restore(0) = 0", "stands 33", "about(4) = 0");
        run("pass() = 1", "save(0) = 0", "pass() = 0", "undo() = 1", "undo() = 0", "undo() ! State");

        sentence("26: slot: 0 or 1");
        run("save(0) = 0", "clip(0, 0, 1) = 0", "save(1) = 1", "clip(0, 0, 1) = 3", "restore(0) = 0", "stands 2222", "restore(1) = 1", "stands 1222",
                "restore(0) = 0", "stands 2222");
        run("save(1) = 0", "restore(0) ! State", "restore(1) = 0");
        run("save(0) = 0", "restore(1) ! State", "restore(0) = 0");

        sentence("26: Returns the clips of both gardeners so far.");
        run("save(0) = 0", "clip(0, 0, 1) = 0", "save(0) = 1", "clip(0, 0, 1) = 3", "save(1) = 2", "pass() = 1", "save(1) = 2", "hedge 22", "save(1) = 0");

        sentence("26: Throws IndexOutOfBoundsException if there is no such save slot");
        run("save(-1) ! Index", "save(2) ! Index", "save(" + LEAST + ") ! Index", "save(" + MOST + ") ! Index", "restore(0) ! State", "restore(1) ! State");

        sentence("27: Replaces the state by the one in a save slot, and forgets all remembered states.");
        run("pass() = 1", "save(0) = 0", "14 times wind(2)", "restore(0) = 0", "about(3) = 0", "about(4) = 1",
                "undo() ! State", "pass() = 0", "undo() = 0", "undo() ! State", "about(4) = 1");
        run("text H33", "save(0) = 0", "text H22", "restore(0) = 0", "load() = 0", "stands 22");

        sentence("27: slot: 0 or 1");
        run("save(1) = 0", "pass() = 1", "save(0) = 0", "pass() = 0", "restore(0) = 0", "about(4) = 1", "restore(1) = 0", "about(4) = 0",
                "restore(-1) ! Index", "restore(2) ! Index");

        sentence("27: The save slot keeps it.");
        run("save(0) = 0", "clip(0, 0, 1) = 0", "restore(0) = 0", "clip(0, 1, 2) = 6", "water(2) = 3", "restore(0) = 0", "stands 2222", "fines 0 0",
                "pass() = 1", "undo() = 0", "wind(1) = 0", "undo() = 0", "restore(0) = 0", "about(4) = 0", "about(3) = 0");

        sentence("27: Returns the clips of both gardeners so far then.");
        run("save(0) = 0", "clip(0, 0, 1) = 0", "clip(0, 0, 1) = 3", "save(1) = 2", "clip(1, 1, 1) = 0", "restore(1) = 2", "restore(0) = 0", "restore(1) = 2");

        sentence("27: Throws IndexOutOfBoundsException if there is no such save slot");
        run("save(0) = 0", "save(1) = 0", "pass() = 1", "restore(-1) ! Index", "restore(2) ! Index", "restore(" + LEAST + ") ! Index",
                "restore(" + MOST + ") ! Index", "undo() = 0");

        sentence("27: Throws IllegalStateException if nothing has been saved in it since the last load");
        run("restore(0) ! State", "restore(1) ! State", "text H33", "save(0) = 0", "save(1) = 0", "load() = 0", "restore(0) ! State",
                "restore(1) ! State", "save(1) = 0", "restore(0) ! State", "restore(1) = 0", "stands 33");
        run("save(0) = 0", "text H3", "load() ! State", "restore(0) = 0", "pass() = 1", "restore(1) ! State", "undo() = 0");
    }

    public static void main(String[] args) {
        newObject();
        append();
        clearText();
        errorPosition();
        load();
        about();
        parts();
        plant();
        clip();
        otherActions();
        undo();
        ifClipped();
        worths();
        goesOn();
        bestWater();
        winner();
        runScript();
        runScriptAnswers();
        simulate();
        slots();
        end();
    }
}
