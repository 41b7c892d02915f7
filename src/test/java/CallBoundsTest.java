/** The bounds of each call, promise by promise: too small, too large, empty, full, and what a refused call leaves. */
public final class CallBoundsTest {
    private static final String TALE = "x Al and Bo. they saw Cy. Cy is Al. he, Ed, it. x";
    private static final int LEAST = Integer.MIN_VALUE;
    private static final int MOST = Integer.MAX_VALUE;

    public static void main(String[] args) {
        feedUpTo600();
        feedOfAnyNumbers();
        endBetweenNoneAndAll();
        readOfAnEmptyAndAFullTape();
        tellRefusedDoesNothingElse();
        tellOneOfEight();
        forgetNoneAndEight();
        pinRefusedDoesNothing();
        pinUpTo20();
        anotherPinOfJGoes();
        looseOfNoPinDoesNothing();
        lookOfWhats();
        mentionOfNumbersAndWhats();
        personOfNumbersAndWhats();
        chainOfNumbers();
        nameOfNumbers();
        whoOfNumbers();
        askingChangesNothing();
        Tales.finish();
    }

    /** A TALE with a PIN and a TOLD NAME, so that each refused call has something to spoil. */
    private static TaleReader pinnedAndTold() {
        TaleReader x = Tales.of(TALE);
        Tales.tell(x, "Ed", 3);
        // 0 Al, 1 Bo, 2 they, 3 Cy, 4 Cy, 5 Al, 6 he, 7 Ed, 8 it
        x.pin(6, 1);
        return x;
    }

    // Promise 2: "NONE, and nothing comes, if there would be more than 600."
    private static void feedUpTo600() {
        for (int size = 578; size <= 600; size++) {
            TaleReader x = new TaleReader();
            Tales.put(x, "x" + " ".repeat(size - 1));
            boolean room = size <= 580;
            Tales.due("feed at " + size, x.feed(0x54696d20, 0, 0, 0, 0), room ? size + 20 : -1);
            Tales.due("feed at " + size + ": end one behind", x.end(room ? size + 21 : size + 1), false);
            Tales.due("feed at " + size + ": end there", x.end(room ? size + 20 : size), true);
            Tales.due("feed at " + size + ": read()", x.read(), room ? 1 : 0);
        }
        TaleReader x = new TaleReader();
        for (int i = 1; i <= 33; i++) {
            Tales.due("feed " + i, x.feed(0, 0, 0, 0, 0), i <= 30 ? 20 * i : -1);
        }
        Tales.due("end(600)", x.end(600), true);
        Tales.due("end(601)", x.end(601), false);
    }

    // Promise 2: "of each number the highest first", with numbers below 0, too.
    private static void feedOfAnyNumbers() {
        TaleReader x = new TaleReader();
        Tales.due("feed", x.feed(0xff00416c, 0x7f42ff6f, LEAST, -1, MOST), 20);
        // 255 0 A l, 127 B 255 o, 128 0 0 0, 255 255 255 255, 127 255 255 255: Al is first, B and o are WORDS.
        Tales.due("read()", x.read(), 0);
        Tales.due("look(2)", x.look(2), 1);
        // "x. Al Bo a", 255, "Cy", 255 255 255, 128 0 0, and a full stop as the last byte of all.
        x.feed(0x782e2041, 0x6c20426f, 0x2061ff43, 0x79ffffff, 0x8000002e);
        Tales.due("read() of more", x.read(), 2);
        Tales.due("mention(0, 0)", x.mention(0, 0), 6);
        Tales.due("mention(1, 0)", x.mention(1, 0), 11);
        Tales.due("look(2) of more", x.look(2), 2);
    }

    // Promise 3: "true; false, changing nothing, if it has not so many, or n is below 0."
    private static void endBetweenNoneAndAll() {
        int[] sizes = {0, 1, 19, 20, 21, 599, 600};
        for (int size : sizes) {
            TaleReader x = new TaleReader();
            Tales.put(x, "x".repeat(size));
            int[] wrong = {size + 1, size + 2, MOST, -1, -2, LEAST};
            for (int n : wrong) {
                Tales.due("end(" + n + ") of " + size, x.end(n), false);
            }
            Tales.due("end(" + size + ") of " + size, x.end(size), true);
            Tales.due("end(" + size + ") again", x.end(size), true);
            if (size > 0) {
                Tales.due("end(" + (size - 1) + ") of " + size, x.end(size - 1), true);
                Tales.due("end(" + size + ") of one less", x.end(size), false);
            }
            Tales.due("end(0) of " + size, x.end(0), true);
            Tales.due("end(1) of none", x.end(1), false);
            Tales.due("feed behind none", x.feed(0, 0, 0, 0, 0), 20);
        }
    }

    // Promise 4: "The TAPE, empty then, is the TALE; there are no PINS (TOLD NAMES stay)"
    private static void readOfAnEmptyAndAFullTape() {
        TaleReader x = pinnedAndTold();
        Tales.due("empty: read()", x.read(), 0);
        int[] want = {0, 0, 0, 0, 0, 0, 0, 1};
        for (int what = 0; what < want.length; what++) {
            Tales.due("empty: look(" + what + ")", x.look(what), want[what]);
        }
        Tales.due("full: read()", Tales.read(x, "Ed" + " ".repeat(595) + "him"), 2);
        Tales.due("full: mention(1, 0)", x.mention(1, 0), 597);
        Tales.due("full: end(1)", x.end(1), false);
        Tales.due("full: feed", x.feed(0, 0, 0, 0, 0), 20);
        Tales.due("full: look(0), whatever is on the TAPE", x.look(0), 2);
    }

    // Promise 5: "false, and nothing else is done: it is no NAME, a HE-WORD, no such SEX, or there are 8 others."
    private static void tellRefusedDoesNothingElse() {
        TaleReader x = pinnedAndTold();
        String before = Tales.all(x);
        String[] noNames = {"", "B", "b", "bo", "BO", "Bo ", " Bo", "Bo.", "B o", "BoBo", "Abcdefghijk", "He", "Their",
            "it", "Bo\u00e9", "Bo" + " ".repeat(598), "A" + "b".repeat(599)};
        for (String text : noNames) {
            Tales.due("tell '" + text + "'", Tales.tell(x, text, 1), false);
            Tales.due("the TAPE behind '" + text + "'", x.end(1), false);
            Tales.dueTheSame("tell '" + text + "'", Tales.all(x), before);
        }
        int[] noSexes = {-1, 4, 5, LEAST, MOST};
        for (int sex : noSexes) {
            Tales.due("tell Ed " + sex, Tales.tell(x, "Ed", sex), false);
            Tales.due("tell Bo " + sex, Tales.tell(x, "Bo", sex), false);
            Tales.due("the TAPE behind " + sex, x.end(1), false);
            Tales.dueTheSame("tell " + sex, Tales.all(x), before);
        }
        Tales.due("tell Bo 0", Tales.tell(x, "Bo", 0), true);
        Tales.due("tell Bo 3", Tales.tell(x, "Bo", 3), true);
        Tales.due("Bo's SEX", x.person(1, 1), 3);
        Tales.due("the PIN stays", x.look(6), 1);
        Tales.due("the TALE stays", x.look(0), 9);
    }

    // Promise 5: "or there are 8 others. (One TOLD already has the new SEX.)"
    private static void tellOneOfEight() {
        TaleReader x = Tales.of("x " + Tales.names(9, " "));
        for (int i = 0; i < 7; i++) {
            Tales.tell(x, Tales.nameOf(i), 1);
        }
        Tales.due("the eighth, with 7 others", Tales.tell(x, Tales.nameOf(7), 2), true);
        String before = Tales.all(x);
        Tales.due("the ninth, with 8 others", Tales.tell(x, Tales.nameOf(8), 3), false);
        Tales.dueTheSame("the ninth", Tales.all(x), before);
        for (int i = 0; i < 8; i++) {
            Tales.due("TOLD already, with 7 others: " + i, Tales.tell(x, Tales.nameOf(i), 3), true);
            Tales.due("its SEX: " + i, x.person(i, 1), 3);
            Tales.due("how many: " + i, x.look(7), 8);
        }
        Tales.due("TOLD already, no such SEX", Tales.tell(x, Tales.nameOf(7), 4), false);
        Tales.due("its SEX stays", x.person(7, 1), 3);
        Tales.due("the ninth again", Tales.tell(x, Tales.nameOf(8), 3), false);
        Tales.due("the ninth's SEX", x.person(8, 1), 0);
    }

    // Promise 6: "No NAMES are TOLD any more."
    private static void forgetNoneAndEight() {
        TaleReader x = Tales.of(Tales.names(8, ". "));
        String before = Tales.all(x);
        x.forget();
        Tales.dueTheSame("forget of none", Tales.all(x), before);
        for (int round = 0; round < 3; round++) {
            for (int i = 0; i < 8; i++) {
                Tales.due("tell " + i + " in round " + round, Tales.tell(x, Tales.nameOf(7 - i), 2), true);
            }
            Tales.due("8 TOLD: look(0)", x.look(0), 8);
            Tales.due("8 TOLD: person(7, 1)", x.person(7, 1), 2);
            x.forget();
            Tales.dueTheSame("forget of eight", Tales.all(x), before);
        }
    }

    // Promise 7: "false, and nothing is done: none such, k is not ahead of j"
    private static void pinRefusedDoesNothing() {
        TaleReader x = pinnedAndTold();
        String before = Tales.all(x);
        int[][] wrong = {{9, 0}, {9, 8}, {10, 0}, {80, 0}, {79, 78}, {MOST, 0}, {LEAST, 0}, {-1, 0}, {-1, -2}, {8, -1},
            {8, LEAST}, {8, 8}, {8, 9}, {8, MOST}, {0, 0}, {0, -1}, {0, 1}, {6, 6}, {6, 7}, {6, -1}, {7, 9}};
        for (int[] jk : wrong) {
            String call = "pin(" + jk[0] + ", " + jk[1] + ")";
            Tales.due(call, x.pin(jk[0], jk[1]), false);
            Tales.dueTheSame(call, Tales.all(x), before);
        }
        Tales.due("the first that can be: pin(1, 0)", x.pin(1, 0), true);
        Tales.due("the last, to the one ahead: pin(8, 7)", x.pin(8, 7), true);
        Tales.due("the last, to the first: pin(8, 0)", x.pin(8, 0), true);
        Tales.due("look(6)", x.look(6), 3);
        x = new TaleReader();
        Tales.due("no TALE: pin(1, 0)", x.pin(1, 0), false);
        Tales.read(x, "x Al");
        Tales.due("one MENTION: pin(1, 0)", x.pin(1, 0), false);
        Tales.due("one MENTION: pin(0, 0)", x.pin(0, 0), false);
    }

    // Promise 7: "or there are 20 PINS"
    private static void pinUpTo20() {
        TaleReader x = Tales.of("x Al" + " it".repeat(79));
        for (int i = 0; i < 19; i++) {
            Tales.due("pin(" + (79 - i) + ", 0)", x.pin(79 - i, 0), true);
        }
        Tales.due("19 PINS: another PIN of 79", x.pin(79, 1), true);
        Tales.due("19 PINS: look(6)", x.look(6), 19);
        Tales.due("19 PINS: the 20th", x.pin(60, 0), true);
        Tales.due("20 PINS: look(6)", x.look(6), 20);
        String before = Tales.all(x);
        Tales.due("20 PINS: the 21st", x.pin(59, 0), false);
        Tales.dueTheSame("the 21st", Tales.all(x), before);
        Tales.due("20 PINS: another PIN of 79", x.pin(79, 0), false);
        Tales.dueTheSame("another PIN of 79", Tales.all(x), before);
        Tales.due("20 PINS: loose(70)", x.loose(70), true);
        Tales.due("19 PINS: mention(70, 5)", x.mention(70, 5), 1);
        Tales.due("19 PINS: the 20th again", x.pin(59, 0), true);
        Tales.due("20 PINS again: look(6)", x.look(6), 20);
        Tales.due("20 PINS again: pin(70, 0)", x.pin(70, 0), false);
    }

    // Promise 7: "(Another PIN of j goes.)"
    private static void anotherPinOfJGoes() {
        TaleReader x = Tales.of("x Al, Bo, Cy. it");
        for (int k = 0; k <= 2; k++) {
            Tales.due("pin(3, " + k + ")", x.pin(3, k), true);
            Tales.due("pin(3, " + k + "): look(6)", x.look(6), 1);
            Tales.due("pin(3, " + k + "): mention(3, 4)", x.mention(3, 4), k);
        }
        Tales.due("the same again: pin(3, 2)", x.pin(3, 2), true);
        Tales.due("the same again: look(6)", x.look(6), 1);
        Tales.due("loose(3)", x.loose(3), true);
        Tales.due("none is left: look(6)", x.look(6), 0);
        Tales.due("none is left: mention(3, 5)", x.mention(3, 5), 7);
    }

    // Promise 8: "false if there is none."
    private static void looseOfNoPinDoesNothing() {
        TaleReader x = pinnedAndTold();
        String before = Tales.all(x);
        int[] none = {-1, 0, 1, 5, 7, 8, 9, 79, 80, 81, LEAST, MOST};
        for (int j : none) {
            Tales.due("loose(" + j + ")", x.loose(j), false);
            Tales.dueTheSame("loose(" + j + ")", Tales.all(x), before);
        }
        Tales.due("loose(6)", x.loose(6), true);
        Tales.due("loose(6) again", x.loose(6), false);
        Tales.due("look(6)", x.look(6), 0);
    }

    // Promise 9: "NONE for another what."
    private static void lookOfWhats() {
        // it is Ed, IN DOUBT, for Bo fits, too: the pinned he gave no SEX.
        TaleReader x = pinnedAndTold();
        int[] want = {-1, 9, 5, 5, 1, 0, 0, 1, 1, -1};
        for (int what = -1; what <= 8; what++) {
            Tales.due("look(" + what + ")", x.look(what), want[what + 1]);
        }
        Tales.due("look(least)", x.look(LEAST), -1);
        Tales.due("look(most)", x.look(MOST), -1);
        // "a last one without a full stop, too, if it has a WORD"
        String[] ends = {"", " ", ",7\0\u00ff", "x", " x ", ".", "x."};
        int[] sentences = {1, 1, 1, 2, 2, 2, 2};
        for (int i = 0; i < ends.length; i++) {
            Tales.due("look(2) of 'x." + ends[i] + "'", Tales.of("x." + ends[i]).look(2), sentences[i]);
        }
    }

    // Promise 10: "NONE if there is none such, or another what."
    private static void mentionOfNumbersAndWhats() {
        TaleReader x = pinnedAndTold();
        int[] none = {-1, 9, 10, 79, 80, LEAST, MOST};
        int[] whats = {-1, 0, 1, 2, 3, 4, 5, 6, 7, LEAST, MOST};
        for (int j : none) {
            for (int what : whats) {
                Tales.due("mention(" + j + ", " + what + ")", x.mention(j, what), -1);
            }
        }
        int[] first = {-1, 2, 2, 0, 0, 0, 0, 0, -1, -1, -1};
        int[] last = {-1, 44, 2, 3, 3, 4, 19, 1, -1, -1, -1};
        for (int i = 0; i < whats.length; i++) {
            Tales.due("mention(0, " + whats[i] + ")", x.mention(0, whats[i]), first[i]);
            Tales.due("mention(8, " + whats[i] + ")", x.mention(8, whats[i]), last[i]);
        }
    }

    // Promise 11: "NONE if there is none such, or another what."
    private static void personOfNumbersAndWhats() {
        TaleReader x = pinnedAndTold();
        int[] none = {-1, 5, 6, 29, 30, 31, LEAST, MOST};
        int[] whats = {-1, 0, 1, 2, 3, 4, 5, 6, LEAST, MOST};
        for (int p : none) {
            for (int what : whats) {
                Tales.due("person(" + p + ", " + what + ")", x.person(p, what), -1);
            }
        }
        int[] al = {-1, 0, 0, 4, 2, 0, -1, -1, -1, -1};
        int[] group = {-1, 2, 4, 1, 0, 3, -1, -1, -1, -1};
        int[] cy = {-1, 0, 0, 4, 2, 0, 0, -1, -1, -1};
        int[] ed = {-1, 4, 3, 2, 1, 0, -1, -1, -1, -1};
        for (int i = 0; i < whats.length; i++) {
            Tales.due("person(0, " + whats[i] + ")", x.person(0, whats[i]), al[i]);
            Tales.due("person(2, " + whats[i] + ")", x.person(2, whats[i]), group[i]);
            Tales.due("person(3, " + whats[i] + ")", x.person(3, whats[i]), cy[i]);
            Tales.due("person(4, " + whats[i] + ")", x.person(4, whats[i]), ed[i]);
        }
        x = new TaleReader();
        Tales.due("no TALE: person(0, 0)", x.person(0, 0), -1);
    }

    // Promise 12: "NONE if there is none such."
    private static void chainOfNumbers() {
        TaleReader x = pinnedAndTold();
        int[][] chains = {{0, 3, 4, 5}, {1, 6}, {2}, {0, 3, 4, 5}, {7, 8}};
        for (int p = 0; p < chains.length; p++) {
            for (int k = 0; k < chains[p].length; k++) {
                Tales.due("chain(" + p + ", " + k + ")", x.chain(p, k), chains[p][k]);
            }
            int[] none = {-1, chains[p].length, 79, 80, LEAST, MOST};
            for (int k : none) {
                Tales.due("chain(" + p + ", " + k + ")", x.chain(p, k), -1);
            }
        }
        int[] noPersons = {-1, 5, 29, 30, LEAST, MOST};
        for (int p : noPersons) {
            Tales.due("chain(" + p + ", 0)", x.chain(p, 0), -1);
            Tales.due("chain(" + p + ", -1)", x.chain(p, -1), -1);
        }
        Tales.due("nobody's are no PERSON's", Tales.of("he. she").chain(-1, 0), -1);
    }

    // Promise 13: "NONE if there is none such."
    private static void nameOfNumbers() {
        TaleReader x = pinnedAndTold();
        int[][] names = {{0, 3}, {1}, {}, {0, 3}, {7}};
        for (int p = 0; p < names.length; p++) {
            for (int i = 0; i < names[p].length; i++) {
                Tales.due("name(" + p + ", " + i + ")", x.name(p, i), names[p][i]);
            }
            int[] none = {-1, names[p].length, 79, 80, LEAST, MOST};
            for (int i : none) {
                Tales.due("name(" + p + ", " + i + ")", x.name(p, i), -1);
            }
        }
        int[] noPersons = {-1, 5, 29, 30, LEAST, MOST};
        for (int p : noPersons) {
            Tales.due("name(" + p + ", 0)", x.name(p, 0), -1);
        }
    }

    // Promise 14: "NONE if there is none, or j is no NAME."
    private static void whoOfNumbers() {
        TaleReader x = pinnedAndTold();
        int[] want = {0, 1, -1, 0, 0, 0, -1, 4, -1};
        for (int j = 0; j < want.length; j++) {
            Tales.due("who(" + j + ")", x.who(j), want[j]);
        }
        int[] none = {-1, 9, 79, 80, LEAST, MOST};
        for (int j : none) {
            Tales.due("who(" + j + ")", x.who(j), -1);
        }
        // A NAME that only a GROUP or nobody could have.
        x.pin(7, 2);
        Tales.due("a GROUP's: mention(7, 4)", x.mention(7, 4), 2);
        Tales.due("a GROUP's: who(7)", x.who(7), -1);
        Tales.read(x, "he saw Al");
        x.pin(1, 0);
        Tales.due("nobody's: who(1)", x.who(1), -1);
        Tales.due("nobody's: look(1)", x.look(1), 0);
    }

    private static void askingChangesNothing() {
        TaleReader x = pinnedAndTold();
        Tales.put(x, "Cy");
        String before = Tales.all(x);
        int[] numbers = {-1, 0, 1, 2, 3, 5, 6, 7, 8, 9, 29, 30, 79, 80, LEAST, MOST};
        for (int a : numbers) {
            x.look(a);
            x.who(a);
            for (int b : numbers) {
                x.mention(a, b);
                x.person(a, b);
                x.chain(a, b);
                x.name(a, b);
            }
        }
        Tales.dueTheSame("asking", Tales.all(x), before);
        Tales.due("the TAPE stays", x.end(2), true);
        Tales.due("the TAPE is no longer", x.end(3), false);
    }
}
