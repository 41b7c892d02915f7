/** The bounds of the rules behind '==== 2.', a method for each sentence: at the bound, inside, outside. */
public final class ReadingBoundsTest {
    public static void main(String[] args) {
        aShortNameHasThreeLettersAtLeast();
        aNameThatBeginsALongerOneHasThreeLettersAtLeast();
        namesOfJustOnePerson();
        aToldSexOfAPersonThatHadNone();
        namesWithJustAndBetween();
        twoUnlikeOnesAtLeast();
        noneOfThemAGroupOrNobodys();
        theLeastGroupOfJustThese();
        isAndWas();
        unlikeSexesAreNotJoined();
        asManyNamesAsThereAreMentions();
        thisSentenceOrOneOfTheTwoAhead();
        theOneMentionedLast();
        inDoubtIfTheSecondLastWasInTheSameSentence();
        aPinOfAMentionThatThereIsNot();
        aPinnedNameThatNoPersonHas();
        Tales.finish();
    }

    private static void duePersons(String tale, int... want) {
        Tales.dueOfMentions(tale, Tales.of(tale), 4, want);
    }

    private static void dueCount(String tale, int persons) {
        Tales.due(tale + ": look(1)", Tales.of(tale).look(1), persons);
    }

    private static void dueJoined(String tale, boolean joined) {
        Tales.due(tale + ": person(1, 5)", Tales.of(tale).person(1, 5), joined ? 0 : -1);
    }

    // "if it has 3 letters at least and NAMES of just one PERSON begin with it, that one"
    private static void aShortNameHasThreeLettersAtLeast() {
        duePersons("x Robert Ro", 0, 1);
        duePersons("x Robert Rob", 0, 0);
        duePersons("x Robert Robe", 0, 0);
        duePersons("x Robert Rober", 0, 0);
        duePersons("x Robert Rab", 0, 1);
        duePersons("x Robert Robs", 0, 1);
        duePersons("x Rob Ro", 0, 1);
        duePersons("x Abcdefghij Abcdefghi", 0, 0);
        duePersons("x Abcdefghij Abcdefghj", 0, 1);
    }

    // "if it begins with NAMES of 3 letters at least of just one PERSON, that one"
    private static void aNameThatBeginsALongerOneHasThreeLettersAtLeast() {
        duePersons("x Ro Robert", 0, 1);
        duePersons("x Ro Rob", 0, 1);
        duePersons("x Rob Robert", 0, 0);
        duePersons("x Robe Robert", 0, 0);
        duePersons("x Robs Robert", 0, 1);
        duePersons("x Abcdefghi Abcdefghij", 0, 0);
        // "who has this NAME, too, from now on"
        duePersons("x Rob Robert Roberta Robertson Robby", 0, 0, 0, 0, 0);
        Tales.due("NAMES of one", Tales.of("x Rob Robert Rob Robert Robb").person(0, 3), 3);
        Tales.due("the MENTION at which it came", Tales.of("x Rob Robert Rob Robert Robb").name(0, 2), 4);
    }

    // ".. of just one PERSON"; "else a new one"
    private static void namesOfJustOnePerson() {
        duePersons("x Annabel Bo Ann", 0, 1, 0);
        duePersons("x Annabel Annarose Ann", 0, 1, 2);
        // Annabel and Annabella are two NAMES of just one.
        duePersons("x Annabel Annabella Annab", 0, 0, 0);
        duePersons("x Annabel Annarose Annabel Annarose Ann Ann", 0, 1, 0, 1, 2, 2);
        TaleReader x = Tales.of("x Ann Anna Annabel");
        Tales.dueOfMentions("of one", x, 4, 0, 0, 0);
        x = Tales.of("x Bo Al Ann Anna Annabel");
        x.pin(2, 0);
        x.pin(3, 1);
        Tales.dueOfMentions("it begins with NAMES of two", x, 4, 0, 1, 0, 1, 2);
        x.loose(3);
        Tales.dueOfMentions("it begins with NAMES of one", x, 4, 0, 1, 0, 0, 0);
    }

    // "A PERSON that is TOLD a SEX by a NAME that joins, and had 0, has it then."
    private static void aToldSexOfAPersonThatHadNone() {
        for (int first = 0; first <= 3; first++) {
            for (int then = 0; then <= 3; then++) {
                TaleReader x = Tales.of("x Rob. x Robert");
                Tales.tell(x, "Rob", first);
                Tales.tell(x, "Robert", then);
                Tales.due("Rob " + first + ", Robert " + then, x.person(0, 1), first == 0 ? then : first);
                Tales.read(x, "x Robert. x Rob");
                Tales.due("Robert " + then + ", Rob " + first, x.person(0, 1), then == 0 ? first : then);
            }
        }
        // It has the SEX from then on, not ahead of that.
        TaleReader x = Tales.of("x Rob. she, Robert.");
        Tales.tell(x, "Robert", 1);
        Tales.due("she ahead of Robert: person(0, 1)", x.person(0, 1), 2);
        Tales.due("she ahead of Robert: mention(1, 4)", x.mention(1, 4), 0);
        Tales.read(x, "x Rob. x Robert, she.");
        Tales.due("she behind Robert: mention(2, 4)", x.mention(2, 4), -1);
    }

    // "NAMES that follow one another in a SENTENCE with just the WORD and between any two (bytes that part WORDS aside)
    // (as many as do so)"
    private static void namesWithJustAndBetween() {
        dueCount("x Al and Bo", 3);
        dueCount("x Al Bo", 2);
        dueCount("x Al and and Bo", 2);
        dueCount("x Al,\0and\u00ff(Bo", 3);
        dueCount("x Al and.Bo x Bo", 2);
        dueCount("x Al.and Bo", 2);
        dueCount("x Al an Bo", 2);
        dueCount("x Al ands Bo", 2);
        dueCount("x Al anD Bo", 2);
        dueCount("x Al and", 1);
        dueCount("and Bo", 1);
        TaleReader x = Tales.of("x Al and Bo and Cy and Di Ed and Flo. they");
        // One GROUP of the four, behind the last of them, and one of the two.
        Tales.due("as many as do so: look(1)", x.look(1), 8);
        Tales.due("as many as do so: person(4, 4)", x.person(4, 4), 15);
        Tales.due("as many as do so: person(7, 4)", x.person(7, 4), 32 + 64);
        Tales.due("as many as do so: mention(6, 5)", x.mention(6, 5), 16 + 128);
        // "it has no NAME, and no MENTION of its own by that"
        Tales.due("no NAME: person(4, 3)", x.person(4, 3), 0);
        Tales.due("no NAME: name(4, 0)", x.name(4, 0), -1);
        Tales.due("no MENTION: person(4, 2)", x.person(4, 2), 0);
        Tales.due("no MENTION: chain(4, 0)", x.chain(4, 0), -1);
        Tales.due("a MENTION by they: person(7, 2)", x.person(7, 2), 1);
        Tales.due("a MENTION by they: chain(7, 0)", x.chain(7, 0), 6);
    }

    // "if these (as JOINED then) are two unlike ones at least"
    private static void twoUnlikeOnesAtLeast() {
        dueCount("x Al and Al", 1);
        dueCount("x Al and Al and Al", 1);
        dueCount("x Al and Al and Bo", 3);
        dueCount("x Rob and Robert", 1);
        dueCount("x Al is Bo. x Al and Bo", 2);
        dueCount("x Al is Bo. x Al and Bo and Cy", 4);
        Tales.due("as JOINED then", Tales.of("x Al is Bo. x Bo and Cy").person(3, 4), 1 + 4);
    }

    // "none of them a GROUP, and no NAME there is nobody's"
    private static void noneOfThemAGroupOrNobodys() {
        TaleReader x = Tales.of("x Al and Bo. they saw Cy and Al. it saw Di and Bo.");
        // 0 Al, 1 Bo, 2 they, 3 Cy, 4 Al, 5 it, 6 Di, 7 Bo
        Tales.due("no PIN: look(1)", x.look(1), 7);
        Tales.due("Cy is a GROUP's: pin(3, 2)", x.pin(3, 2), true);
        Tales.due("Cy is a GROUP's: look(1)", x.look(1), 5);
        Tales.due("Cy is a GROUP's: person(2, 2)", x.person(2, 2), 2);
        x = Tales.of("he saw Al and Bo and Cy.");
        for (int j = 1; j <= 3; j++) {
            Tales.due("nobody's: pin(" + j + ", 0)", x.pin(j, 0), true);
            Tales.due("nobody's " + j + ": look(1)", x.look(1), 2);
            x.loose(j);
        }
        Tales.due("nobody is nobody's: look(1)", x.look(1), 4);
    }

    // "the least one that has just these PERSONS, or a new one"
    private static void theLeastGroupOfJustThese() {
        dueCount("x Al and Bo. x Al and Bo", 3);
        dueCount("x Al and Bo. x Bo and Al and Bo", 3);
        dueCount("x Al and Bo. x Al and Bo and Cy", 5);
        dueCount("x Al and Bo and Cy. x Al and Bo", 5);
        dueCount("x Al and Bo. x Al and Cy. x Bo and Cy", 6);
        // Two GROUPS of the same PERSONS, as JOINED: the least, though the other was mentioned behind it.
        TaleReader x = Tales.of("x Al and Bo. x Al and Cy. x Cy is Bo. x. x Al and Bo. they");
        Tales.due("the least: mention(8, 4)", x.mention(8, 4), 2);
        Tales.due("the least: mention(8, 5)", x.mention(8, 5), 4);
        Tales.due("the least: person(4, 4)", x.person(4, 4), 3);
    }

    // "behind a NAME, the WORD is or was, and a NAME, one behind the other in a SENTENCE"
    private static void isAndWas() {
        dueJoined("x Al is Bo", true);
        dueJoined("x Al was Bo", true);
        dueJoined("x Al\0is\u00ffBo", true);
        dueJoined("x Al i Bo", false);
        dueJoined("x Al iss Bo", false);
        dueJoined("x Al wa Bo", false);
        dueJoined("x Al wass Bo", false);
        dueJoined("x Al iS Bo", false);
        dueJoined("x Al is is Bo", false);
        dueJoined("x Al is. Bo x Bo", false);
        dueJoined("x Al. is Bo", false);
        dueJoined("x Al Bo", false);
        dueJoined("x he is Al is x Bo", false);
        // "if they are unlike": the greater number is JOINED to the other, whichever is ahead.
        dueJoined("x Al, Bo. x Bo is Al", true);
        Tales.due("Al is Al", Tales.of("x Al is Al").person(0, 5), -1);
        Tales.due("the least stays", Tales.of("x Al, Bo. x Bo is Al").person(0, 5), -1);
        TaleReader x = Tales.of("x Al and Bo. they saw Cy is Di");
        x.pin(3, 2);
        Tales.due("a GROUP is nobody else: person(3, 5)", x.person(3, 5), -1);
        Tales.due("a GROUP is nobody else: person(2, 5)", x.person(2, 5), -1);
        x.pin(4, 2);
        x.pin(3, 0);
        Tales.due("nobody else is a GROUP: person(2, 5)", x.person(2, 5), -1);
    }

    // "its SEX (if its own is 0) ..; not if both have SEXES, that are unlike."
    private static void unlikeSexesAreNotJoined() {
        for (int al = 0; al <= 3; al++) {
            for (int bo = 0; bo <= 3; bo++) {
                TaleReader x = Tales.of("x Al is Bo");
                Tales.tell(x, "Al", al);
                Tales.tell(x, "Bo", bo);
                boolean joined = al == 0 || bo == 0 || al == bo;
                String tale = "Al " + al + " is Bo " + bo + ": ";
                Tales.due(tale + "person(1, 5)", x.person(1, 5), joined ? 0 : -1);
                Tales.due(tale + "person(0, 1)", x.person(0, 1), al == 0 ? bo : al);
                Tales.due(tale + "person(1, 1)", x.person(1, 1), joined && al != 0 ? al : bo);
                Tales.due(tale + "person(0, 2)", x.person(0, 2), joined ? 2 : 1);
                Tales.due(tale + "person(0, 3)", x.person(0, 3), joined ? 2 : 1);
            }
        }
    }

    // 80 MENTIONS can be 80 NAMES, the last of which JOINS.
    private static void asManyNamesAsThereAreMentions() {
        StringBuilder tale = new StringBuilder("x Ab Cde");
        for (int i = 0; i < 77; i++) {
            tale.append(" Cde").append((char) ('a' + i % 26)).append((char) ('a' + i / 26));
        }
        TaleReader x = Tales.of(tale + " is Ef");
        Tales.due("80 NAMES: look(0)", x.look(0), 80);
        Tales.due("80 NAMES: look(1)", x.look(1), 3);
        Tales.due("80 NAMES: person(1, 3)", x.person(1, 3), 79);
        Tales.due("80 NAMES: name(2, 78)", x.name(2, 78), 79);
        Tales.due("80 NAMES: name(2, 79)", x.name(2, 79), -1);
        x = Tales.of(tale + " is Ab");
        Tales.due("79 NAMES: person(0, 3)", x.person(0, 3), 79);
        for (int i = 0; i < 79; i++) {
            Tales.due("79 NAMES: name(0, " + i + ")", x.name(0, i), i);
        }
        // All of PERSON 1 and the 80th NAME, which is PERSON 2's, go to PERSON 0 at last.
        x = Tales.of(tale + " is Ef");
        x.pin(79, 0);
        Tales.due("80 NAMES of one: person(0, 3)", x.person(0, 3), 80);
        Tales.due("80 NAMES of one: name(0, 1)", x.name(0, 1), 79);
        Tales.due("80 NAMES of one: name(0, 2)", x.name(0, 2), 1);
        Tales.due("80 NAMES of one: name(0, 79)", x.name(0, 79), 78);
        Tales.due("80 NAMES of one: name(0, 80)", x.name(0, 80), -1);
        Tales.due("80 NAMES of one: person(0, 2)", x.person(0, 2), 80);
    }

    // "who were mentioned in this SENTENCE or one of the two ahead"; "If there is none, it is nobody's (NONE)."
    private static void thisSentenceOrOneOfTheTwoAhead() {
        String[] heWords = {"he", "she", "it"};
        for (int stops = 0; stops <= 4; stops++) {
            String gap = ".".repeat(stops) + " ";
            for (int i = 0; i < heWords.length; i++) {
                TaleReader x = Tales.of("x Al" + gap + heWords[i]);
                Tales.due(heWords[i] + " " + stops + ": mention(1, 4)", x.mention(1, 4), stops <= 2 ? 0 : -1);
                Tales.due(heWords[i] + " " + stops + ": mention(1, 5)", x.mention(1, 5), stops <= 2 ? 1 : 0);
                Tales.due(heWords[i] + " " + stops + ": person(0, 1)", x.person(0, 1), stops <= 2 ? i + 1 : 0);
                Tales.due(heWords[i] + " " + stops + ": look(4)", x.look(4), stops <= 2 ? 0 : 1);
            }
            TaleReader x = Tales.of("x Al and Bo" + gap + "they" + gap + "they");
            Tales.due("they " + stops + ": mention(2, 4)", x.mention(2, 4), stops <= 2 ? 2 : -1);
            Tales.due("they " + stops + ": mention(2, 5)", x.mention(2, 5), stops <= 2 ? 4 : 0);
            Tales.due("they " + stops + ": mention(3, 4)", x.mention(3, 4), stops <= 2 ? 2 : -1);
        }
        // Only some of those that were mentioned are near enough.
        Tales.due("FIT of the near", Tales.of("x Al. x Bo. x. it").mention(2, 5), 2);
        Tales.due("FIT of both", Tales.of("x Al. x Bo. it").mention(2, 5), 3);
    }

    // "one of the PERSONS with that SEX, or 0, ..: the one mentioned last; who has that SEX from then on."
    private static void theOneMentionedLast() {
        for (int he = 1; he <= 3; he++) {
            for (int al = 0; al <= 3; al++) {
                for (int bo = 0; bo <= 3; bo++) {
                    TaleReader x = Tales.of("x Al, Bo. " + new String[] {"his", "her", "its"}[he - 1]);
                    Tales.tell(x, "Al", al);
                    Tales.tell(x, "Bo", bo);
                    boolean alFits = al == 0 || al == he;
                    boolean boFits = bo == 0 || bo == he;
                    String tale = "Al " + al + ", Bo " + bo + ", " + he + ": ";
                    Tales.due(tale + "mention(2, 4)", x.mention(2, 4), boFits ? 1 : alFits ? 0 : -1);
                    Tales.due(tale + "mention(2, 5)", x.mention(2, 5), (alFits ? 1 : 0) + (boFits ? 2 : 0));
                    Tales.due(tale + "mention(2, 6)", x.mention(2, 6), alFits && boFits ? 1 : 0);
                    Tales.due(tale + "person(0, 1)", x.person(0, 1), alFits && !boFits ? he : al);
                    Tales.due(tale + "person(1, 1)", x.person(1, 1), boFits ? he : bo);
                }
            }
        }
        // A GROUP is not one of SEX 0 .. 3, and those are no GROUPS.
        Tales.due("no GROUP", Tales.of("x Al, Bo. they").mention(2, 4), -1);
        TaleReader x = Tales.of("x Al and Bo. they, it");
        Tales.due("not the GROUP: mention(3, 4)", x.mention(3, 4), 1);
        Tales.due("not the GROUP: mention(3, 5)", x.mention(3, 5), 3);
    }

    // "IN DOUBT it is, if two or more fit, and the second last was last mentioned in the same SENTENCE as the last."
    private static void inDoubtIfTheSecondLastWasInTheSameSentence() {
        String[] tales = {"x Al. it", "x Al, Bo. it", "x Al. x Bo. it", "x Al it", "x Al, Bo it", "x Al. x Bo it",
            "x Al, Bo, Cy. x Cy. it", "x Al, Bo, Cy. x Al, Bo. it", "x Al, Bo, Cy. x Bo, Al. it",
            "x Al, Bo, Cy. x Cy, Al. it", "x Al, Bo, Cy. x Al, Cy. it", "x Al, Bo, Cy. x Al. it",
            "x Al, Bo, Cy. x Bo. it", "x Al, Bo. x Cy. x Al. it", "x Al and Bo, Cy and Di. they",
            "x Al and Bo. x Cy and Di. they", "x Al and Bo. they", "x Al, Bo... it", "x Al, Bo.. it"};
        int[] want = {0, 1, 0, 0, 1, 0, 0, 1, 1, 1, 1, 0, 0, 0, 1, 0, 0, 0, 1};
        for (int i = 0; i < tales.length; i++) {
            TaleReader x = Tales.of(tales[i]);
            Tales.due(tales[i] + " IN DOUBT", x.mention(x.look(0) - 1, 6), want[i]);
            Tales.due(tales[i] + " look(3)", x.look(3), want[i]);
        }
    }

    // "PINS are by MENTIONS' numbers, whatever MENTIONS there are then; one of which there is none does nothing."
    private static void aPinOfAMentionThatThereIsNot() {
        TaleReader x = new TaleReader();
        Tales.tell(x, "Al", 0);
        Tales.read(x, "Al saw Bo and Cy.");
        Tales.due("3 MENTIONS: pin(2, 0)", x.pin(2, 0), true);
        Tales.due("3 MENTIONS: mention(2, 4)", x.mention(2, 4), 0);
        x.forget();
        // MENTION 1 is Cy then, and there is no MENTION 2.
        Tales.dueOfMentions("2 MENTIONS", x, 4, 0, 1);
        Tales.due("2 MENTIONS: look(6)", x.look(6), 1);
        Tales.due("2 MENTIONS: pin(2, 0)", x.pin(2, 0), false);
        Tales.due("2 MENTIONS: look(6) then", x.look(6), 1);
        Tales.tell(x, "Al", 0);
        Tales.due("3 MENTIONS again: mention(2, 4)", x.mention(2, 4), 0);
        x.forget();
        Tales.due("2 MENTIONS: loose(2)", x.loose(2), true);
        Tales.due("2 MENTIONS: loose(2) again", x.loose(2), false);
        Tales.tell(x, "Al", 0);
        Tales.due("3 MENTIONS, loosed: mention(2, 4)", x.mention(2, 4), 2);
    }

    // "a pinned NAME that no PERSON has is theirs from then on (but a GROUP's); it changes no SEX, is not IN DOUBT, its
    // FIT is 0."
    private static void aPinnedNameThatNoPersonHas() {
        TaleReader x = Tales.of("x Al, Bo. x Bo, Bob, it");
        Tales.tell(x, "Bo", 2);
        Tales.due("Bo is new: pin(1, 0)", x.pin(1, 0), true);
        Tales.dueOfMentions("Bo is new", x, 4, 0, 0, 0, 1, 1);
        Tales.due("Bo is new: person(0, 1)", x.person(0, 1), 0);
        Tales.due("Bo is new: person(0, 3)", x.person(0, 3), 2);
        Tales.due("Bo is new: who(2)", x.who(2), 0);
        x.loose(1);
        Tales.due("Bo is had: pin(2, 0)", x.pin(2, 0), true);
        Tales.dueOfMentions("Bo is had", x, 4, 0, 1, 0, 2, 2);
        Tales.due("Bo is had: person(0, 3)", x.person(0, 3), 1);
        Tales.due("Bo is had: who(2)", x.who(2), 1);
        x.loose(2);
        Tales.due("it is loose: mention(4, 6)", x.mention(4, 6), 0);
        Tales.read(x, "x Al, Cy. it");
        Tales.due("it is loose: mention(2, 6) then", x.mention(2, 6), 1);
        Tales.due("it is loose: person(1, 1)", x.person(1, 1), 3);
        Tales.due("it is pinned: pin(2, 1)", x.pin(2, 1), true);
        Tales.due("it is pinned: mention(2, 6)", x.mention(2, 6), 0);
        Tales.due("it is pinned: mention(2, 5)", x.mention(2, 5), 0);
        Tales.due("it is pinned: mention(2, 4)", x.mention(2, 4), 1);
        Tales.due("it is pinned: person(1, 1)", x.person(1, 1), 0);
        Tales.due("it is pinned: look(3)", x.look(3), 0);
    }
}
