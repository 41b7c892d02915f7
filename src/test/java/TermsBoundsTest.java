/** The bounds that the document tells under 'Terms', a method for each sentence: at the bound, inside, outside. */
public final class TermsBoundsTest {
    public static void main(String[] args) {
        aTaleIsUpTo600Bytes();
        wordsAreLettersAsManyAsStandTogether();
        asManyWordsAsATaleCanHave();
        aNameHasTwoToTenLetters();
        theFirstWordOfASentence();
        aHeWordWithACapitalLetter();
        mentionsAre80AtMost();
        theTaleIsCutOnlyWhileThereAreMore();
        mentionsBehindThe80thDoNothing();
        personsAre30AtMost();
        theThirtyFirstIsNobody();
        joinedOnesCountAmongThe30();
        allThirtyJoinedInARow();
        aGroupCountsAmongThe30();
        toldNamesAreUpToEight();
        Tales.finish();
    }

    private static void dueKinds(String tale, int... want) {
        Tales.dueOfMentions(tale, Tales.of(tale), 3, want);
    }

    // "A TALE is up to 600 bytes."
    private static void aTaleIsUpTo600Bytes() {
        int[] lengths = {4, 5, 19, 20, 21, 40, 580, 581, 598, 599, 600};
        for (int length : lengths) {
            TaleReader x = Tales.of("x" + " ".repeat(length - 4) + "Tim");
            Tales.due(length + " bytes: look(0)", x.look(0), length == 4 ? 0 : 1);
            Tales.due(length + " bytes: mention(0, 0)", x.mention(0, 0), length == 4 ? -1 : length - 3);
            Tales.due(length + " bytes: mention(0, 1)", x.mention(0, 1), length == 4 ? -1 : 3);
        }
        TaleReader x = new TaleReader();
        Tales.put(x, "x" + " ".repeat(596) + "Tim");
        Tales.due("a feed behind 600 bytes", x.feed(0x6f746879, 0, 0, 0, 0), -1);
        x.read();
        Tales.due("600 bytes and no more: mention(0, 1)", x.mention(0, 1), 3);
        Tales.due("600 full stops: look(2)", Tales.of(".".repeat(600)).look(2), 600);
        Tales.due("599 full stops and a WORD: look(2)", Tales.of(".".repeat(599) + "x").look(2), 600);
        Tales.due("no bytes: look(2)", Tales.of("").look(2), 0);
    }

    // "WORDS are letters as many as stand together; a SENTENCE ends at a full stop (46); all other bytes part WORDS."
    private static void wordsAreLettersAsManyAsStandTogether() {
        for (int sign = 0; sign < 256; sign++) {
            TaleReader x = new TaleReader();
            Tales.put(x, new byte[] {'x', ' ', 'A', 'l', (byte) sign, 'B', 'o'});
            boolean letter = sign >= 'A' && sign <= 'Z' || sign >= 'a' && sign <= 'z';
            boolean stop = sign == '.';
            // Bo is the first WORD of its SENTENCE, and no NAME, behind a full stop.
            Tales.due("read() with byte " + sign, x.read(), letter ? 0 : stop ? 1 : 2);
            Tales.due("look(2) with byte " + sign, x.look(2), stop ? 2 : 1);
        }
        for (char sign = 'a'; sign <= 'z'; sign++) {
            String name = "" + Character.toUpperCase(sign) + sign;
            dueKinds("x " + name, 0);
        }
        TaleReader x = Tales.of("x Al\u002eBo");
        Tales.due("the byte ahead of the full stop: mention(0, 1)", x.mention(0, 1), 2);
    }

    // 600 bytes have 300 WORDS at most; the last of them counts as the first does.
    private static void asManyWordsAsATaleCanHave() {
        TaleReader x = Tales.of("a ".repeat(299) + "he");
        Tales.due("300 WORDS: look(0)", x.look(0), 1);
        Tales.due("300 WORDS: mention(0, 0)", x.mention(0, 0), 598);
        x = Tales.of("a.".repeat(299) + "he");
        Tales.due("300 SENTENCES: look(2)", x.look(2), 300);
        Tales.due("300 SENTENCES: mention(0, 2)", x.mention(0, 2), 299);
        x = Tales.of("a ".repeat(300));
        Tales.due("300 WORDS of a letter: look(0)", x.look(0), 0);
        Tales.due("300 WORDS of a letter: look(2)", x.look(2), 1);
        Tales.due("a WORD of 600 letters: look(0)", Tales.of("A" + "a".repeat(599)).look(0), 0);
        Tales.due("a WORD of 600 letters: look(2)", Tales.of("A" + "a".repeat(599)).look(2), 1);
    }

    // "A NAME is a WORD that begins with a capital letter and has small ones behind it alone, 2 to 10 letters"
    private static void aNameHasTwoToTenLetters() {
        for (int length = 1; length <= 12; length++) {
            String word = "A" + "b".repeat(length - 1);
            boolean isName = length >= 2 && length <= 10;
            TaleReader x = Tales.of("x " + word);
            Tales.due(word + " inside: look(0)", x.look(0), isName ? 1 : 0);
            Tales.due(word + " inside: mention(0, 1)", x.mention(0, 1), isName ? length : -1);
            Tales.due(word + " first and inside: look(0)", Tales.of(word + " " + word).look(0), isName ? 2 : 0);
            Tales.due(word + " first and TOLD: tell(0)", Tales.tell(x, word, 0), isName);
            Tales.due(word + " first and TOLD: look(0)", Tales.read(x, word), isName ? 1 : 0);
        }
        dueKinds("x aL AL ALb AlB Abcdefghi Abcdefghij AbcdefghiJ abcdefghij", 0, 0);
    }

    // "but the first WORD of a SENTENCE is one only if it is also found as a NAME elsewhere in the TALE (not first in
    // its SENTENCE), or is told as a NAME."
    private static void theFirstWordOfASentence() {
        dueKinds("Al");
        dueKinds("x Al", 0);
        dueKinds("Al x Al", 0, 0);
        dueKinds("Al.Al.Al");
        dueKinds("Al.Al.Al x Al", 0, 0, 0, 0);
        dueKinds("Al. x Alb", 0);
        dueKinds("Alb. x Al", 0);
        dueKinds("Al. x AL");
        dueKinds("Al. x al");
        dueKinds("x. ,;7 Al");
        dueKinds("x. ,;7 x Al", 0);
        TaleReader x = Tales.of("Al. Bo. Alb");
        String[] told = {"Alb", "Al", "Bo"};
        int[] mentions = {1, 2, 3};
        for (int i = 0; i < told.length; i++) {
            Tales.tell(x, told[i], 0);
            Tales.due(told[i] + " is TOLD: look(0)", x.look(0), mentions[i]);
        }
        x.forget();
        Tales.due("none TOLD: look(0)", x.look(0), 0);
    }

    // "in small letters, or with a capital one if they are first in a SENTENCE. (With a capital one elsewhere they are
    // neither HE-WORDS nor NAMES.)"
    private static void aHeWordWithACapitalLetter() {
        String[] heWords = {"he", "him", "his", "she", "her", "hers", "it", "its", "they", "them", "their"};
        int[] sexes = {1, 1, 1, 2, 2, 2, 3, 3, 4, 4, 4};
        for (int i = 0; i < heWords.length; i++) {
            String small = heWords[i];
            String capital = Character.toUpperCase(small.charAt(0)) + small.substring(1);
            dueKinds(small, sexes[i]);
            dueKinds("x " + small, sexes[i]);
            dueKinds(capital, sexes[i]);
            dueKinds("x. " + capital + " " + small, sexes[i], sexes[i]);
            dueKinds("x " + capital);
            dueKinds(capital + " " + capital, sexes[i]);
            dueKinds(small.toUpperCase());
            dueKinds("x " + small.toUpperCase());
            TaleReader x = new TaleReader();
            Tales.due("tell " + capital, Tales.tell(x, capital, 1), false);
            Tales.due("tell " + small, Tales.tell(x, small, 1), false);
            Tales.due("tell " + capital + "x", Tales.tell(x, capital + "x", 1), true);
        }
    }

    // "MENTIONS are all NAMES and HE-WORDS in their order, 80 at most, numbered 0, 1, ..; those behind are left out
    // (the TALE is CUT)."
    private static void mentionsAre80AtMost() {
        for (int count = 78; count <= 83; count++) {
            TaleReader x = new TaleReader();
            int kept = Math.min(count, 80);
            Tales.due(count + " HE-WORDS: read()", Tales.read(x, "x" + " it".repeat(count)), kept);
            dueCut(count + " HE-WORDS", x, count, 2 + 3 * (kept - 1));
            Tales.due(count + " NAMES: read()", Tales.read(x, "x" + " Al".repeat(count)), kept);
            dueCut(count + " NAMES", x, count, 2 + 3 * (kept - 1));
            Tales.due(count + " NAMES: person(0, 2)", x.person(0, 2), kept);
            Tales.due(count + " NAMES: chain(0, 79)", x.chain(0, 79), count >= 80 ? 79 : -1);
            Tales.due(count + " NAMES: chain(0, 80)", x.chain(0, 80), -1);
        }
    }

    private static void dueCut(String tale, TaleReader x, int count, int lastPlace) {
        int kept = Math.min(count, 80);
        Tales.due(tale + ": look(0)", x.look(0), kept);
        Tales.due(tale + ": look(5)", x.look(5), count > 80 ? 1 : 0);
        Tales.due(tale + ": mention(0, 0)", x.mention(0, 0), 2);
        Tales.due(tale + ": its last place", x.mention(kept - 1, 0), lastPlace);
        Tales.due(tale + ": one behind it", x.mention(kept, 0), -1);
        Tales.due(tale + ": pin(79, 78)", x.pin(79, 78), kept == 80);
        Tales.due(tale + ": pin(80, 79)", x.pin(80, 79), false);
        Tales.due(tale + ": loose(79)", x.loose(79), kept == 80);
    }

    private static void theTaleIsCutOnlyWhileThereAreMore() {
        TaleReader x = Tales.of("Bo. x" + " Al".repeat(80));
        Tales.due("80: look(5)", x.look(5), 0);
        Tales.tell(x, "Bo", 2);
        Tales.due("81 by tell: look(5)", x.look(5), 1);
        Tales.due("81 by tell: look(0)", x.look(0), 80);
        Tales.due("81 by tell: mention(79, 0)", x.mention(79, 0), 5 + 1 + 3 * 78);
        x.forget();
        Tales.due("80 by forget: look(5)", x.look(5), 0);
        Tales.due("80 by forget: mention(79, 0)", x.mention(79, 0), 5 + 1 + 3 * 79);
        Tales.read(x, "x" + " he".repeat(81));
        Tales.due("81 by read: look(5)", x.look(5), 1);
        x.read();
        Tales.due("no TALE: look(5)", x.look(5), 0);
    }

    private static void mentionsBehindThe80thDoNothing() {
        String[] behind = {" and Bo", " is Bo", " Bo", " he"};
        for (String text : behind) {
            TaleReader x = Tales.of("x" + " he".repeat(79) + " Al" + text);
            Tales.due("80 and" + text + ": look(1)", x.look(1), 1);
            Tales.due("80 and" + text + ": look(4)", x.look(4), 79);
            Tales.due("80 and" + text + ": person(0, 1)", x.person(0, 1), 0);
            Tales.due("80 and" + text + ": look(5)", x.look(5), 1);
            x = Tales.of("x" + " he".repeat(78) + " Al" + text);
            Tales.due("79 and" + text + ": look(5)", x.look(5), 0);
        }
        Tales.due("79 and: a GROUP", Tales.of("x" + " he".repeat(78) + " Al and Bo").look(1), 3);
        Tales.due("79 is: JOINED", Tales.of("x" + " he".repeat(78) + " Al is Bo").person(1, 5), 0);
    }

    // "PERSONS are numbered as they are first mentioned (30 at most; ..)"
    private static void personsAre30AtMost() {
        for (int count = 28; count <= 33; count++) {
            int kept = Math.min(count, 30);
            TaleReader x = Tales.of("x " + Tales.names(count, " "));
            Tales.due(count + " NAMES: look(0)", x.look(0), count);
            Tales.due(count + " NAMES: look(1)", x.look(1), kept);
            Tales.due(count + " NAMES: look(4)", x.look(4), count - kept);
            for (int j = 0; j < count; j++) {
                int due = j < 30 ? j : -1;
                Tales.due(count + " NAMES: mention(" + j + ", 4)", x.mention(j, 4), due);
                Tales.due(count + " NAMES: who(" + j + ")", x.who(j), due);
                Tales.due(count + " NAMES: person(" + j + ", 0)", x.person(j, 0), due);
                Tales.due(count + " NAMES: name(" + j + ", 0)", x.name(j, 0), due);
                Tales.due(count + " NAMES: chain(" + j + ", 0)", x.chain(j, 0), due);
            }
        }
        TaleReader x = Tales.of("x " + Tales.names(30, " ") + " he him");
        Tales.due("30 fit: mention(30, 5)", x.mention(30, 5), (1 << 30) - 1);
        Tales.due("30 fit: mention(30, 4)", x.mention(30, 4), 29);
        Tales.due("30 fit: person(29, 1)", x.person(29, 1), 1);
        Tales.due("30 fit: mention(31, 6)", x.mention(31, 6), 1);
    }

    // "who would be the 31st, is nobody, NONE"
    private static void theThirtyFirstIsNobody() {
        TaleReader x = new TaleReader();
        Tales.tell(x, "Zoe", 2);
        Tales.read(x, "x " + Tales.names(30, " ") + ". see Zoe. she, Zoe is Zoa, Zoe and " + Tales.nameOf(3) + ". they.");
        // 30 Zoe, 31 she, 32 Zoe, 33 Zoa, 34 Zoe, 35 PERSON 3, 36 they
        Tales.due("31st: look(1)", x.look(1), 30);
        int[] want = {-1, 29, -1, -1, -1, 3, -1};
        for (int i = 0; i < want.length; i++) {
            Tales.due("31st: mention(" + (30 + i) + ", 4)", x.mention(30 + i, 4), want[i]);
        }
        Tales.due("31st: look(4)", x.look(4), 5);
        Tales.due("31st: who(30)", x.who(30), -1);
        Tales.due("31st: mention(31, 5)", x.mention(31, 5), (1 << 30) - 1);
        Tales.due("31st: pin(32, 0)", x.pin(32, 0), true);
        // MENTION 32 has the NAME Zoe for PERSON 0, so that a later Zoe, and the GROUP's, are known.
        Tales.due("Zoe pinned: mention(34, 4)", x.mention(34, 4), 0);
        Tales.due("Zoe pinned: mention(30, 4)", x.mention(30, 4), -1);
        Tales.due("Zoe pinned: who(30)", x.who(30), 0);
        Tales.due("Zoe pinned: look(1), no room for a GROUP", x.look(1), 30);
        Tales.due("Zoe pinned: mention(36, 4)", x.mention(36, 4), -1);
    }

    private static void joinedOnesCountAmongThe30() {
        String tale = "x " + Tales.names(29, " ") + " is " + Tales.nameOf(0);
        TaleReader x = Tales.of(tale + " Zoe");
        Tales.due("one JOINED, the 30th: mention(30, 4)", x.mention(30, 4), 29);
        Tales.due("one JOINED, the 30th: person(28, 5)", x.person(28, 5), 0);
        x = Tales.of(tale + " Zoe Yan");
        Tales.due("one JOINED, the 31st: mention(31, 4)", x.mention(31, 4), -1);
        Tales.due("one JOINED, the 31st: look(1)", x.look(1), 30);
    }

    // "JOINED PERSONS keep their numbers: asked for, they are told as the one to whom they are JOINED."
    private static void allThirtyJoinedInARow() {
        StringBuilder tale = new StringBuilder("x " + Tales.names(30, " ") + ". x " + Tales.nameOf(29));
        for (int p = 28; p >= 0; p--) {
            tale.append(" is ").append(Tales.nameOf(p));
        }
        TaleReader x = Tales.of(tale + ". he");
        Tales.due("30 in a row: look(1)", x.look(1), 30);
        Tales.due("30 in a row: mention(60, 5)", x.mention(60, 5), 1);
        Tales.due("30 in a row: mention(60, 6)", x.mention(60, 6), 0);
        for (int p = 0; p < 30; p++) {
            Tales.due("30 in a row: person(" + p + ", 0)", x.person(p, 0), 0);
            Tales.due("30 in a row: person(" + p + ", 1)", x.person(p, 1), 1);
            Tales.due("30 in a row: person(" + p + ", 2)", x.person(p, 2), 61);
            Tales.due("30 in a row: person(" + p + ", 3)", x.person(p, 3), 30);
            Tales.due("30 in a row: person(" + p + ", 5)", x.person(p, 5), p - 1);
            Tales.due("30 in a row: mention(" + p + ", 4)", x.mention(p, 4), 0);
            Tales.due("30 in a row: who(" + p + ")", x.who(p), 0);
            Tales.due("30 in a row: chain(" + p + ", 60)", x.chain(p, 60), 60);
            Tales.due("30 in a row: name(0, " + p + ")", x.name(0, p), p);
        }
    }

    private static void aGroupCountsAmongThe30() {
        TaleReader x = Tales.of("x " + Tales.names(28, " and ") + ". they, Zoe.");
        Tales.due("28 and their GROUP: mention(28, 4)", x.mention(28, 4), 28);
        Tales.due("28 and their GROUP: person(28, 4)", x.person(28, 4), (1 << 28) - 1);
        Tales.due("28 and their GROUP: Zoe", x.mention(29, 4), 29);
        x = Tales.of("x " + Tales.names(29, " and ") + ". they, Zoe.");
        Tales.due("29 and their GROUP: look(1)", x.look(1), 30);
        Tales.due("29 and their GROUP: person(29, 1)", x.person(29, 1), 4);
        Tales.due("29 and their GROUP: person(29, 4)", x.person(29, 4), (1 << 29) - 1);
        Tales.due("29 and their GROUP: mention(29, 5)", x.mention(29, 5), 1 << 29);
        Tales.due("29 and their GROUP: Zoe", x.mention(30, 4), -1);
        x = Tales.of("x " + Tales.names(30, " and ") + ". they.");
        Tales.due("30 and no GROUP: look(1)", x.look(1), 30);
        Tales.due("30 and no GROUP: mention(30, 4)", x.mention(30, 4), -1);
        // A GROUP that is there already is mentioned when there is no room for another.
        String zeroAndOne = Tales.nameOf(0) + " and " + Tales.nameOf(1);
        x = Tales.of("x " + zeroAndOne + ". x " + Tales.names(29, " ") + ". x. x. see " + zeroAndOne + ". see "
            + Tales.nameOf(1) + " and " + Tales.nameOf(5) + ". they.");
        Tales.due("no room: look(1)", x.look(1), 30);
        Tales.due("no room: mention(35, 3)", x.mention(35, 3), 4);
        Tales.due("no room: mention(35, 4)", x.mention(35, 4), 2);
        Tales.due("no room: mention(35, 5)", x.mention(35, 5), 4);
    }

    // "TOLD NAMES: up to 8, each with a SEX 0 .. 3."
    private static void toldNamesAreUpToEight() {
        for (int count = 0; count <= 10; count++) {
            TaleReader x = Tales.of(Tales.names(10, ". "));
            for (int i = 0; i < count; i++) {
                Tales.due("tell " + (i + 1) + " of " + count, Tales.tell(x, Tales.nameOf(i), i % 4), i < 8);
            }
            int kept = Math.min(count, 8);
            Tales.due(count + " TOLD: look(7)", x.look(7), kept);
            Tales.due(count + " TOLD: look(0)", x.look(0), kept);
            for (int p = 0; p < kept; p++) {
                Tales.due(count + " TOLD: person(" + p + ", 1)", x.person(p, 1), p % 4);
            }
        }
    }
}
