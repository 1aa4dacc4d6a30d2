/**
 * Each sentence of the document's section "Terms" that names a boundary has a test of its own here, headed by its words.
 * The answers that are due are worked out by hand.
 */
public final class TermsBoundariesTest extends Runs {
    private static void hedge() {
        sentence("The hedge has 2 to 6 stems side by side");
        run("plant(2, #31) = 4", "about(0) = 2", "stands 31", "leaves(1) = 1", "leaves(2) ! Index");
        run("plant(6, #310203) = 9", "about(0) = 6", "stands 310203", "leaves(5) = 3", "leaves(6) ! Index");
        run("plant(1, 0) ! Argument", "plant(7, 0) ! Argument", "plant(0, 0) ! Argument");
        run("text H31", "load() = 0", "stands 31", "text H310203", "load() = 0", "stands 310203");
        run("text H3", "load() ! State", "text H3102031", "load() ! State");

        sentence("numbered from 0 on the left");
        run("text H01230", "load() = 0", "leaves(-1) ! Index", "leaves(0) = 0", "leaves(1) = 1", "leaves(2) = 2",
                "leaves(3) = 3", "leaves(4) = 0", "leaves(5) ! Index");
        // The neighbour on the left of the stem i is the stem i - 1.
        run("text H01110g1c331", "load() = 0", "stands 00100");

        sentence("at first 4");
        run("about(0) = 4", "leaves(3) = 2", "leaves(4) ! Index");

        sentence("A stem has 0 to 3 leaves, at first 2");
        run("stands 2222", "water(0) = 3", "water(0) ! State", "leaves(0) = 3");
        run("clip(3, 3, 3) = 3", "leaves(3) = 0", "clip(3, 3, 1) ! State", "leaves(3) = 0", "stands 2220");
        run("plant(2, 15) = 6", "stands 33", "plant(2, 16) ! Argument");
        run("plant(2, 0) = 0", "stands 00");
        run("text H30", "load() = 0", "stands 30", "text H34", "load() ! State");

        sentence("without leaves it is bare");
        run("hedge 0123", "about(2) = 1", "clip(1, 1, 1) = 3", "about(2) = 2", "water(0) = 1", "about(2) = 1");
        run("hedge 111111", "about(2) = 0", "hedge 000000", "about(2) = 6", "hedge 000001", "about(2) = 5");

        sentence("A hedge is told by a number, in which the leaves of the stem i are times 4 to the power of i.");
        run("plant(6, 1) = 1", "stands 100000", "plant(6, 4) = 1", "stands 010000", "plant(6, 16) = 1", "stands 001000");
        run("plant(6, 64) = 1", "stands 000100", "plant(6, 256) = 1", "stands 000010", "plant(6, 1024) = 1", "stands 000001");
        run("plant(6, 4095) = 18", "stands 333333", "plant(6, 0) = 0", "stands 000000", "plant(6, 3) = 3", "stands 300000");
        run("text H100000", "load() = 0", "about(7) = 1", "text H000003", "load() = 0", "about(7) = 3072");
        run("text H333333", "load() = 0", "about(7) = 4095", "text H000000", "load() = 0", "about(7) = 0");
        run("about(7) = 170");

        sentence("The wind is 0 (none, at first), 1 (it comes from the left), or 2 (it comes from the right).");
        run("about(3) = 0", "hedge 022220", "clip(2, 2, 1) = 0", "stands 021220");
        run("wind(1) = 0", "hedge 022220", "clip(2, 2, 1) = 0", "stands 011220");
        run("wind(2) = 0", "hedge 022220", "clip(2, 2, 1) = 0", "stands 021210");
        run("wind(-1) ! Argument", "wind(3) ! Argument", "wind(0) = 0", "wind(2) = 0", "wind(1) = 2", "wind(0) = 1");
    }

    private static void gardeners() {
        sentence("There are two gardeners, 0 and 1; one of them has the turn, at first 0.");
        run("about(4) = 0", "gardener(0, 1) = 0", "gardener(1, 1) = 0", "gardener(-1, 1) ! Index", "gardener(2, 1) ! Index");
        run("clip(0, 0, 1) = 0", "clips 1 0", "clip(0, 0, 1) = 3", "clips 1 1", "fines 0 3");

        sentence("Each has fines, at first 0.");
        run("fines 0 0", "clip(0, 0, 2) = 3", "fines 3 0");
    }

    private static void clips() {
        sentence("its last stem, not less than the first one");
        run("clip(1, 1, 1) = 0", "clip(1, 0, 1) ! Argument", "clip(3, 2, 1) ! Argument", "clip(3, 0, 1) ! Argument");
        run("ifClipped(2, 2, 1, 1) = #2212", "ifClipped(2, 1, 1, 1) ! Argument", "ifClipped(3, 0, 1, 1) ! Argument");

        sentence("at most setting 1 less 1 greater");
        run("hedge 333333", "set(1, 1) = 2", "clip(0, 0, 1) = 0", "clip(0, 1, 1) ! Argument", "clip(4, 5, 1) ! Argument",
                "clip(5, 5, 1) = 0", "stands 233332");
        run("hedge 333333", "clip(0, 1, 1) = 0", "clip(0, 2, 1) ! Argument", "clip(3, 5, 1) ! Argument",
                "clip(4, 5, 1) = 0", "stands 223322");
        run("hedge 333333", "set(1, 3) = 2", "clip(0, 2, 1) = 0", "clip(0, 3, 1) ! Argument", "clip(2, 5, 1) ! Argument",
                "clip(0, 5, 1) ! Argument", "clip(3, 5, 1) = 0", "stands 222222");
        run("hedge 333333", "ifClipped(4, 5, 1, 1) = #333322", "ifClipped(3, 5, 1, 1) ! Argument", "set(1, 3) = 2",
                "ifClipped(3, 5, 1, 1) = #333222", "ifClipped(2, 5, 1, 1) ! Argument", "set(1, 1) = 3",
                "ifClipped(5, 5, 1, 1) = #333332", "ifClipped(4, 5, 1, 1) ! Argument");

        sentence("and 1 to 3 leaves");
        run("hedge 3333", "clip(0, 0, 0) ! Argument", "clip(0, 0, 1) = 0", "clip(1, 1, 2) = 0", "clip(2, 2, 3) = 3",
                "clip(3, 3, 4) ! Argument", "clip(3, 3, -1) ! Argument", "stands 2103");
        run("hedge 3333", "ifClipped(0, 0, 0, 1) ! Argument", "ifClipped(0, 0, 1, 1) = #2333", "ifClipped(0, 0, 3, 1) = #0333",
                "ifClipped(0, 0, 4, 1) ! Argument");

        sentence("each of these stems loses as many leaves, or all that it has");
        run("hedge 012333", "set(1, 3) = 2", "clip(0, 2, 1) = 3", "stands 001333");
        run("hedge 123123", "set(1, 3) = 2", "clip(0, 2, 2) = 6", "stands 001123");
        run("hedge 333210", "set(1, 3) = 2", "clip(3, 5, 3) = 6", "stands 333000");
        run("hedge 313", "clip(1, 1, 3) = 3", "stands 303");
        run("hedge 31", "clip(1, 1, 2) = 3", "stands 30");

        sentence("It is possible if at least one of these stems has leaves.");
        run("hedge 100000", "set(1, 3) = 2", "clip(0, 2, 1) = 3");
        run("hedge 010000", "set(1, 3) = 2", "clip(0, 2, 1) = 3");
        run("hedge 001000", "set(1, 3) = 2", "clip(0, 2, 1) = 3");
        run("hedge 100010", "set(1, 3) = 2", "clip(1, 3, 1) ! State", "clip(1, 1, 3) ! State", "clip(5, 5, 1) ! State",
                "ifClipped(1, 3, 1, 0) = NONE", "ifClipped(5, 5, 3, 1) = NONE");
        // Only the stems 0 and 4 have leaves: 0-0, 0-1, 0-2 and 2-4, 3-4, 3-5, 4-4, 4-5, each with 1 to 3 leaves.
        run("hedge 100010", "set(1, 3) = 2", "about(8) = 24", "set(1, 2) = 3", "about(8) = 15", "set(1, 1) = 2", "about(8) = 6");
    }

    private static void whatHappens() {
        sentence("1. The leaves are lost.");
        run("clip(1, 2, 1) = 0", "stands 2112", "about(1) = 6", "taken 2 0");

        sentence("If there is wind, each stem with leaves that has a bare stem as its neighbour"
                + " on the side from which the wind comes loses one leaf");
        run("hedge 203020", "clip(0, 0, 1) = 0", "stands 103020");
        run("hedge 203020", "wind(1) = 0", "clip(0, 0, 1) = 0", "stands 102010");
        run("hedge 203020", "wind(2) = 0", "clip(2, 2, 1) = 0", "stands 101010");
        run("hedge 3113", "wind(1) = 0", "clip(3, 3, 1) = 0", "stands 3112");
        run("hedge 3113", "wind(2) = 0", "clip(0, 0, 1) = 0", "stands 2113");
        // Bare stems behind bare ones lose nothing.
        run("hedge 0021", "wind(1) = 0", "clip(3, 3, 1) = 3", "stands 0010");
        run("hedge 1200", "wind(2) = 0", "clip(0, 0, 1) = 3", "stands 0100");
        // The stem that the clip made bare counts; only clips let the wind blow.
        run("hedge 1222", "wind(1) = 0", "clip(0, 0, 1) = 3", "stands 0122");
        run("hedge 2221", "wind(2) = 0", "clip(3, 3, 1) = 3", "stands 2210");
        run("hedge 0202", "wind(1) = 0", "stands 0202", "pass() = 1", "water(1) = 3", "stands 0302", "wind(2) = 1", "stands 0302");

        sentence("all at once, as they are behind 1");
        run("hedge 0111", "wind(1) = 0", "clip(3, 3, 1) = 6", "stands 0010");
        run("hedge 1110", "wind(2) = 0", "clip(0, 0, 1) = 6", "stands 0100");
        run("hedge 111111", "wind(1) = 0", "clip(0, 0, 1) = 6", "stands 001111");
        run("hedge 111111", "wind(2) = 0", "clip(5, 5, 1) = 6", "stands 111100");

        sentence("(A stem at the end of the hedge has no neighbour on its outer side.)");
        run("hedge 11", "wind(1) = 0", "clip(1, 1, 1) = 3", "stands 10");
        run("hedge 11", "wind(2) = 0", "clip(0, 0, 1) = 3", "stands 01");
        run("hedge 101", "wind(1) = 0", "clip(2, 2, 1) = 3", "stands 100");
        run("hedge 101", "wind(2) = 0", "clip(0, 0, 1) = 3", "stands 001");
        run("hedge 1003", "wind(1) = 0", "clip(3, 3, 1) = 0", "stands 1001");
        run("hedge 3001", "wind(2) = 0", "clip(0, 0, 1) = 0", "stands 1001");
        run("hedge 30003", "wind(1) = 0", "clip(4, 4, 1) = 0", "stands 30001");
        run("hedge 30003", "wind(2) = 0", "clip(0, 0, 1) = 0", "stands 10003");
        run("hedge 333333", "wind(1) = 0", "clip(5, 5, 1) = 0", "stands 333332");
        run("hedge 333333", "wind(2) = 0", "clip(0, 0, 1) = 0", "stands 233333");

        sentence("For each stem that had leaves ahead of the clip, and is bare now, the gardener gets setting 0 more fines.");
        run("clip(0, 1, 1) = 0", "fines 0 0", "clip(0, 1, 1) = 6", "fines 0 6", "clip(2, 2, 3) = 3", "fines 3 6");
        run("hedge 0112", "clip(0, 1, 3) = 3", "fines 3 0", "clip(1, 2, 1) = 3", "fines 3 3");
        run("set(0, 1) = 3", "clip(0, 1, 2) = 2", "fines 2 0");
        run("set(0, 9) = 3", "clip(0, 1, 2) = 18", "fines 18 0", "set(0, 1) = 9", "fines 18 0", "clip(2, 2, 2) = 1", "fines 18 1");
        run("hedge 1111", "clip(0, 0, 1) = 3", "pass() = 0", "clip(1, 1, 1) = 3", "fines 6 0");
        // The wind's bare stems are paid too: here it takes the stems 3 and 5.
        run("hedge 111101", "wind(1) = 0", "set(1, 3) = 2", "set(0, 9) = 3", "clip(0, 2, 1) = 45", "stands 000000", "fines 45 0");

        sentence("The other gardener has the turn.");
        run("clip(0, 0, 1) = 0", "about(4) = 1", "clip(1, 1, 1) = 0", "about(4) = 0", "clip(2, 2, 1) = 0", "about(4) = 1");

        sentence("When all stems are bare, no clip is possible: the hedge is over.");
        run("hedge 0001", "about(6) = 0", "clip(3, 3, 1) = 3", "about(6) = 1", "about(8) = 0", "clip(3, 3, 1) ! State",
                "clip(0, 1, 3) ! State", "ifClipped(2, 3, 3, 1) = NONE", "bestClip() = NONE", "water(2) = 1", "about(6) = 0");
        run("hedge 00", "about(6) = 1", "hedge 000000", "about(6) = 1", "hedge 100000", "about(6) = 0", "hedge 000001", "about(6) = 0");
    }

    private static void worths() {
        sentence("The worth of a hedge, with the wind and the settings of now, is for the one who has the turn");
        run("hedge 012012", "set(1, 1) = 2", "worth() = 100", "wind(1) = 0", "worth() = 94", "wind(2) = 1", "worth() = 106",
                "set(0, 9) = 3", "worth() = 118", "set(0, 1) = 9", "worth() = 102", "wind(0) = 2", "worth() = 100");
        run("hedge 122", "set(1, 1) = 2", "worth() = 97", "set(1, 2) = 1", "worth() = 103");
        run("hedge 0303", "wind(1) = 0", "worth() = 100", "set(1, 3) = 2", "worth() = 106");
        run("hedge 10", "worth() = 97", "pass() = 1", "worth() = 97");

        sentence("the fines that the other one gets from now on, less those that this one gets");
        run("hedge 11", "clip(0, 0, 1) = 3", "fines 3 0", "worth() = 97", "clip(1, 1, 1) = 3", "fines 3 3", "worth() = 100");
        run("hedge 12", "clip(0, 0, 1) = 3", "fines 3 0", "worth() = 103", "pass() = 0", "worth() = 103");

        sentence("if both clip as well as they can until it is over.");
        // 22 goes on with 12, 11, 01, 00: each pays once. Of 111 the one ahead pays twice, of 3 the other one pays.
        run("set(1, 1) = 2", "hedge 22", "worth() = 100", "goesOn(18, 1) = 4", "hedge 111", "worth() = 97", "hedge 30", "worth() = 103",
                "hedge 33", "worth() = 100", "hedge 333333", "worth() = 100", "goesOn(18, 1) = 18");

        sentence("So it is 0 for a hedge that is over");
        run("hedge 00", "worth() = 100", "hedge 000000", "set(0, 9) = 3", "wind(2) = 0", "worth() = 100");
        run("hedge 01", "ifClipped(1, 1, 1, 2) = 100", "clip(0, 1, 3) = 3", "worth() = 100");

        sentence("otherwise the greatest one, of all clips that are possible, of: the worth of the hedge behind the clip,"
                + " with the sign turned, less the fines that the clip brings.");
        run("hedge 10", "worth() = 97", "hedge 20", "worth() = 103", "hedge 30", "worth() = 103");
        // The least and the greatest worth that there is: three stems with one leaf behind bare ones go by one clip.
        run("hedge 010101", "wind(1) = 0", "set(1, 1) = 2", "set(0, 9) = 3", "worth() = 73", "hedge 020203", "worth() = 127");
        // One clip alone is best: of all first stems, last stems and leaves some.
        run("hedge 321", "wind(1) = 0", "set(1, 1) = 2", "bestClip() = 3", "bestClips() = 1");
        run("hedge 3310", "wind(2) = 0", "bestClip() = 12", "bestClips() = 1");
        run("hedge 33323", "set(1, 3) = 2", "bestClip() = 22", "bestClips() = 1");
        run("hedge 001202", "set(1, 3) = 2", "bestClip() = 351", "bestClips() = 1");
        run("hedge 000122", "bestClip() = 451", "bestClips() = 1");
        run("hedge 000123", "wind(2) = 0", "set(1, 1) = 2", "bestClip() = 553", "bestClips() = 1");

        sentence("A best clip is one with which it is greatest; the best clip is that of these with the least number");
        run("hedge 10", "bestClip() = 1", "bestClips() = 6", "hedge 30", "bestClip() = 2", "bestClips() = 2");
        run("hedge 001", "set(1, 1) = 2", "bestClip() = 221", "set(1, 2) = 1", "bestClip() = 121", "set(1, 3) = 2", "bestClip() = 21");
        run("hedge 222", "set(1, 1) = 2", "bestClip() = 1", "set(1, 2) = 1", "bestClip() = 111", "set(1, 3) = 2", "bestClip() = 21");
        run("hedge 11", "set(1, 1) = 2", "bestClip() = 1", "bestClips() = 6", "wind(1) = 0", "bestClip() = 111", "bestClips() = 3");

        sentence("which is 100 times its first stem, 10 times its last stem, and its leaves, together");
        run("hedge 000001", "set(1, 3) = 2", "bestClip() = 351", "set(1, 2) = 3", "bestClip() = 451", "set(1, 1) = 2", "bestClip() = 551");
        run("hedge 003", "set(1, 1) = 2", "bestClip() = 222", "hedge 300", "bestClip() = 2");
    }

    private static void settings() {
        sentence("0: the fines for a stem, 1 to 9, at first 3");
        run("setting(0) = 3", "clip(0, 0, 2) = 3", "set(0, 0) ! Argument", "set(0, 1) = 3", "set(0, 9) = 1", "set(0, 10) ! Argument",
                "setting(0) = 9", "clip(1, 1, 2) = 9");

        sentence("1: how many stems a clip has at most, 1 to 3, at first 2.");
        run("setting(1) = 2", "clip(0, 2, 1) ! Argument", "clip(0, 1, 1) = 0", "set(1, 0) ! Argument", "set(1, 4) ! Argument",
                "set(1, 1) = 2", "clip(0, 1, 1) ! Argument", "set(1, 3) = 1", "clip(0, 2, 1) = 6", "setting(1) = 3");
    }

    private static void faults(String place, String... texts) {
        for (String text : texts) {
            run("text " + text, "errorPosition() = " + place, place.equals("NONE") ? "load()" : "load() ! State");
        }
    }

    private static void texts() {
        sentence("The object has a text buffer of at most 120 characters.");
        run("119 times append('p')", "append('p') = 120", "append('p') ! State", "clearText() = 120");
        run("text H22" + "p".repeat(117), "load() = 0", "about(4) = 1", "append('p') ! State", "clearText() = 120");

        sentence("A garden as a text is the letter H");
        faults("0", "", "h22", "G22", "I22", "22", "22H");
        faults("1", "HH22");
        faults("NONE", "H22");

        sentence("2 to 6 digits for the leaves of stems from the left (0 to 3)");
        faults("1", "H", "Hp", "H/", "H4");
        faults("2", "H2", "H2p", "H2/", "H24", "H2:");
        faults("NONE", "H00", "H33", "H000000", "H333333", "H012", "H3210", "H01230");
        faults("7", "H0000000", "H3333333", "H1231231p");
        faults("3", "H334", "H33/");
        run("text H0123", "load() = 0", "stands 0123", "text H321032", "load() = 0", "stands 321032");

        sentence("and then any number of commands");
        run("text H22", "load() = 0", "about(4) = 0");
        run("text H22" + "p".repeat(116), "load() = 0", "about(4) = 0", "append('p') = 120", "load() = 0", "about(4) = 1");
        run("text H33" + "c001".repeat(29) + "p", "load() = 26", "stands 03", "about(4) = 0", "fines 3 0");
    }

    private static void commands() {
        sentence("c and three digits for a first stem (0 to 5), a last stem (0 to 5), and leaves (1 to 3): clip()");
        faults("NONE", "H22c001", "H22c003", "H22c551", "H22c053", "H22c502");
        faults("3", "H22C001", "H22d001");
        faults("4", "H22c", "H22c601", "H22c/01", "H22cc");
        faults("5", "H22c0", "H22c061", "H22c0/1", "H22c0p");
        faults("6", "H22c00", "H22c000", "H22c004", "H22c00/", "H22c00p");
        faults("7", "H22c0011", "H22c001/");
        run("text H222223c551", "load() = 0", "stands 222222", "clips 1 0", "about(4) = 1");
        run("text H222333c342c453", "load() = 0", "stands 222100", "clips 1 1", "fines 0 6", "taken 4 4");

        sentence("w, a digit for a stem (0 to 5): water()");
        faults("NONE", "H22w0", "H22w5");
        faults("4", "H22w", "H22w6", "H22w/", "H22wp");
        faults("5", "H22w00");
        run("text H000000w0w5w5", "load() = 0", "stands 100002", "clips 0 0", "about(4) = 0");

        sentence("g and a digit (0 to 2): wind()");
        faults("NONE", "H22g0", "H22g2");
        faults("4", "H22g", "H22g3", "H22g/", "H22gp");
        faults("5", "H22g00");
        run("text H22g1", "load() = 0", "about(3) = 1", "append('g') = 6", "append('2') = 7", "load() = 0", "about(3) = 2",
                "append('g') = 8", "append('0') = 9", "load() = 0", "about(3) = 0");

        sentence("p: pass()");
        faults("NONE", "H22p", "H22ppp");
        faults("3", "H22P", "H22o", "H22q");
        faults("4", "H22p0");
        run("text H22p", "load() = 0", "about(4) = 1", "clips 0 0", "append('p') = 5", "load() = 0", "about(4) = 0");

        sentence("b: the best clip is clipped");
        faults("NONE", "H22b", "H22bb");
        faults("3", "H22B", "H22a");
        faults("4", "H22b0");
        run("text H30b", "load() = 0", "stands 10", "about(4) = 1", "clips 1 0", "append('b') = 5", "load() = 0", "stands 00", "fines 0 3");

        sentence("Commands that would throw an exception, and b if the hedge is over, are left out.");
        run("text H22c221c023", "load() = 2", "stands 22", "clips 0 0", "about(4) = 0");
        run("text H22c101", "load() = 1", "stands 22", "text H222c021", "load() = 1", "stands 222");
        run("text H02c001", "load() = 1", "stands 02", "text H22w2", "load() = 1", "stands 22");
        run("text H31w0", "load() = 1", "stands 31", "text H00b", "load() = 1", "about(4) = 0", "clips 0 0");
        run("text H10bbp", "load() = 1", "about(4) = 0", "clips 1 0");
        // With other settings ahead of it, load() still has those of a new object.
        run("set(1, 3) = 2", "set(0, 9) = 3", "text H111c021c011", "load() = 1", "stands 001", "fines 6 0");
        run("set(1, 1) = 2", "text H111c011", "load() = 0", "stands 001");

        sentence("There are no blanks.");
        faults("0", " H22");
        faults("1", "H 22");
        faults("2", "H2 2");
        faults("3", "H22 ", "H22 p");
        faults("4", "H22p ", "H22p p", "H22w 0", "H22g 1", "H22c 001");
        faults("5", "H22c0 01");
        faults("6", "H22c00 1");

        sentence("The text is read from left to right.");
        run("text H31c002w0w0w0", "load() = 1", "stands 31", "text H31w0w0w0c002", "load() = 3", "stands 11");
        run("text H11g1c111", "load() = 0", "stands 10", "text H11c001g1", "load() = 0", "stands 01", "text H11g1c001", "load() = 0", "stands 00");
        faults("3", "H22xc9", "H22?4");

        sentence("The error position is the index of the first character that these rules do not allow at its place");
        faults("0", "x", "xH22");
        faults("1", "Hx2");
        faults("119", "H22" + "p".repeat(116) + "H");
        run("append(0) = 1", "errorPosition() = 0", "text H22", "append(0) = 4", "errorPosition() = 3");
        run("text H22p", "append(255) = 5", "errorPosition() = 4", "text H22w", "append(255) = 5", "errorPosition() = 4");

        sentence("if the text ends too soon, it is the length of the text.");
        faults("0", "");
        faults("1", "H");
        faults("2", "H0");
        faults("4", "H22c", "H22w", "H22g");
        faults("6", "H22c00");
        faults("120", "H22" + "p".repeat(116) + "w", "H22" + "p".repeat(114) + "c00", "H22" + "p".repeat(116) + "g");
    }

    private static void actions() {
        sentence("change the state, which consists of everything but the text and the save slots.");
        run("mark", "plant(6, 4095) = 18", "undo() = 0", "marked");
        run("wind(2) = 0", "set(0, 7) = 3", "set(1, 3) = 2", "clip(0, 2, 1) = 0", "clip(0, 1, 1) = 14", "mark",
                "plant(3, 5) = 2", "undo() = 5", "marked", "clip(2, 3, 3) = 14", "undo() = 5", "marked",
                "water(0) = 1", "undo() = 5", "marked", "wind(1) = 2", "undo() = 5", "marked", "pass() = 1", "undo() = 5", "marked",
                "set(0, 1) = 7", "undo() = 5", "marked", "set(1, 1) = 3", "undo() = 5", "marked");
        run("text H33", "pass() = 1", "text H22p", "undo() = 0", "errorPosition() = NONE", "clearText() = 4");
        run("pass() = 1", "save(1) = 0", "undo() = 0", "restore(1) = 0", "about(4) = 1");

        sentence("Each call of one of them that does not throw an exception is an action, also if nothing becomes different (undo is none).");
        run("wind(0) = 0", "set(0, 3) = 3", "set(1, 2) = 2", "plant(4, 170) = 8", "mark", "undo() = 3", "undo() = 2", "undo() = 1",
                "undo() = 0", "marked", "undo() ! State");
        run("clip(0, 0, 1) = 0", "water(0) = 2", "pass() = 0", "undo() = 2", "undo() = 1", "undo() = 0");
        run("plant(1, 0) ! Argument", "clip(0, 0, 0) ! Argument", "wind(3) ! Argument", "set(0, 0) ! Argument", "undo() ! State");
        run("pass() = 1", "undo() = 0", "undo() ! State", "about(4) = 0");

        sentence("Before each action, the state is remembered.");
        run("water(0) = 3", "water(1) = 3", "water(2) = 3", "undo() = 2", "stands 3322", "undo() = 1", "stands 3222", "undo() = 0", "stands 2222");

        sentence("At most 14 states are remembered; when one more is remembered, the oldest one is forgotten.");
        run("set(0, 1)", "12 times wind(1)", "set(0, 2)", "undo() = 13", "setting(0) = 1", "12 times undo()", "undo() = 0",
                "setting(0) = 3", "undo() ! State");
        run("set(0, 1)", "13 times wind(1)", "set(0, 2)", "undo() = 13", "setting(0) = 1", "12 times undo()", "setting(0) = 1",
                "undo() = 0", "setting(0) = 1", "about(3) = 0", "undo() ! State");
        run("14 times wind(1)", "set(0, 5)", "14 times wind(2)", "undo() = 13", "about(3) = 2", "12 times undo()", "undo() = 0",
                "about(3) = 1", "setting(0) = 5", "undo() ! State");
        run("20 times pass()", "10 times undo()", "undo() = 3", "12 times wind(2)", "undo() = 13", "13 times undo()", "about(4) = 1",
                "undo() ! State");

        sentence("load and restore are not actions.");
        run("text H33", "load() = 0", "undo() ! State", "stands 33");
        run("save(0) = 0", "restore(0) = 0", "undo() ! State");
    }

    /** Runs of calls that must leave all as it was, also what can only be seen by changing it. */
    private static void changesNothing(String... calls) {
        for (String call : calls) {
            run("text H3120w3", "set(0, 5) = 3", "set(1, 3) = 2", "wind(2) = 0", "hedge 21303", "save(0) = 0", "clip(0, 1, 1) = 10",
                    "stands 00203", "mark", call, "marked", "stands 00203", "clip(2, 3, 1) = 5", "undo() = 5", "marked", "undo() = 4",
                    "stands 21303", "about(3) = 2", "about(4) = 0", "undo() = 3", "stands 2222", "undo() = 2", "about(3) = 0",
                    "undo() = 1", "setting(1) = 2", "undo() = 0", "setting(0) = 3", "undo() ! State", "restore(1) ! State",
                    "restore(0) = 0", "stands 21303", "setting(0) = 5", "load() = 0", "stands 3121", "clearText() = 7");
        }
    }

    private static void exceptions() {
        sentence("IndexOutOfBoundsException means that a stem or a gardener does not exist, or that a save slot is not 0 or 1.");
        run("leaves(-1) ! Index", "leaves(4) ! Index", "water(-1) ! Index", "water(4) ! Index");
        run("clip(-1, 0, 1) ! Index", "clip(0, 4, 1) ! Index", "clip(4, 4, 1) ! Index", "clip(4, 0, 1) ! Index", "clip(0, -1, 1) ! Index");
        run("ifClipped(-1, 0, 1, 0) ! Index", "ifClipped(0, 4, 1, 0) ! Index", "ifClipped(4, 4, 1, 0) ! Index",
                "ifClipped(4, 0, 1, 0) ! Index", "ifClipped(0, -1, 1, 0) ! Index");
        run("gardener(-1, 0) ! Index", "gardener(2, 0) ! Index", "save(-1) ! Index", "save(2) ! Index", "restore(-1) ! Index", "restore(2) ! Index");

        sentence("IllegalArgumentException means that another argument is out of its range.");
        run("append(-1) ! Argument", "append(256) ! Argument", "about(-1) ! Argument", "about(9) ! Argument");
        run("gardener(0, -1) ! Argument", "gardener(1, 3) ! Argument", "setting(-1) ! Argument", "setting(2) ! Argument");
        run("plant(1, 0) ! Argument", "plant(4, 256) ! Argument", "clip(0, 0, 4) ! Argument", "wind(3) ! Argument", "set(2, 1) ! Argument");
        run("ifClipped(0, 0, 1, 4) ! Argument", "goesOn(0, 0) ! Argument", "goesOn(1, 2) ! Argument", "runScript(4, 0) ! Argument",
                "simulate(0, 61) ! Argument");

        sentence("IllegalStateException means what the method says.");
        run("120 times append('x')", "append('x') ! State", "load() ! State", "undo() ! State", "restore(0) ! State", "restore(1) ! State");
        run("hedge 03", "clip(0, 0, 1) ! State", "water(1) ! State", "clip(1, 1, 3) = 3", "clip(0, 1, 3) ! State");

        sentence("If several exceptions apply to a call, the one that its description names first is thrown.");
        run("119 times append('x')", "append('x') = 120", "append(256) ! Argument", "append(-1) ! Argument");
        run("gardener(2, 3) ! Index", "gardener(-1, -1) ! Index", "gardener(1, 3) ! Argument");
        run("clip(4, 4, 0) ! Index", "clip(0, 4, 4) ! Index", "clip(4, 0, 1) ! Index", "clip(-1, 3, 1) ! Index", "clip(1, -1, 0) ! Index");
        run("hedge 0000", "clip(0, 0, 0) ! Argument", "clip(0, 0, 4) ! Argument", "clip(1, 0, 1) ! Argument", "clip(0, 2, 1) ! Argument",
                "clip(0, 0, 1) ! State", "clip(4, 4, 1) ! Index");
        run("ifClipped(4, 4, 0, 4) ! Index", "ifClipped(0, 4, 1, 4) ! Index", "ifClipped(4, 0, 1, 0) ! Index", "ifClipped(-1, 3, 1, 0) ! Index");
        run("restore(0) ! State", "restore(2) ! Index", "restore(-1) ! Index");

        sentence("A call that throws an exception changes nothing.");
        changesNothing("append(-1) ! Argument", "append(256) ! Argument", "about(9) ! Argument", "leaves(5) ! Index", "gardener(2, 0) ! Index",
                "gardener(0, 3) ! Argument", "setting(2) ! Argument", "plant(1, 0) ! Argument", "plant(7, 0) ! Argument",
                "plant(2, 16) ! Argument", "plant(6, -1) ! Argument");
        changesNothing("clip(5, 5, 1) ! Index", "clip(0, 5, 1) ! Index", "clip(0, 0, 0) ! Argument", "clip(0, 0, 4) ! Argument",
                "clip(1, 0, 1) ! Argument", "clip(0, 3, 1) ! Argument", "clip(1, 1, 1) ! State");
        changesNothing("water(5) ! Index", "water(4) ! State", "wind(-1) ! Argument", "wind(3) ! Argument", "set(2, 1) ! Argument",
                "set(0, 0) ! Argument", "set(0, 10) ! Argument", "set(1, 0) ! Argument", "set(1, 4) ! Argument");
        changesNothing("ifClipped(5, 5, 1, 0) ! Index", "ifClipped(0, 0, 0, 0) ! Argument", "ifClipped(0, 0, 1, 4) ! Argument",
                "goesOn(0, 0) ! Argument", "goesOn(19, 0) ! Argument", "runScript(0, 4000) ! Argument", "runScript(1, 40004000) ! Argument",
                "runScript(1, -4000) ! Argument", "simulate(0, 0) ! Argument", "simulate(0, 61) ! Argument");
        changesNothing("save(2) ! Index", "save(-1) ! Index", "restore(2) ! Index", "restore(1) ! State");
        run("text H22x", "pass() = 1", "save(1) = 0", "pass() = 0", "load() ! State", "undo() = 1", "about(4) = 1", "undo() = 0",
                "about(4) = 0", "restore(0) ! State", "restore(1) = 0", "about(4) = 1", "clearText() = 4");
        run("text H2212" + "p".repeat(115), "append('p') ! State", "load() = 0", "about(4) = 1", "stands 2212", "clearText() = 120");
        run("save(0) = 0", "text H31w1", "undo() ! State", "restore(0) = 0", "load() = 0", "stands 32", "clearText() = 5");

        sentence("`NONE = -1`: There is no such result.");
        run("errorPosition() = 0", "text H22", "errorPosition() = -1", "hedge 00", "bestClip() = -1", "bestWater() = -1",
                "ifClipped(0, 0, 1, 0) = -1", "runScript(1, 4000) = -1");

        sentence("what would be; these and all following methods up to the save slots change nothing.");
        changesNothing("ifClipped(2, 3, 3, 0)", "ifClipped(2, 3, 3, 1)", "ifClipped(2, 3, 3, 2)", "ifClipped(2, 3, 3, 3)", "worth()",
                "bestClip()", "bestClips()", "goesOn(18, 0)", "goesOn(18, 1)", "bestWater()", "winner()");
        changesNothing("runScript(3, 500050005000)", "runScript(3, 100120003001)", "runScript(1, 4000)", "runScript(2, 10010000)",
                "simulate(1, 60)", "simulate(-7, 60)", "simulate(77, 1)");
    }

    public static void main(String[] args) {
        hedge();
        gardeners();
        clips();
        whatHappens();
        worths();
        settings();
        texts();
        commands();
        actions();
        exceptions();
        end();
    }
}
