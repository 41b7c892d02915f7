/** What is a WORD, a NAME and a HE-WORD, and whose a NAME is. */
public final class NameRulesTest {
    public static void main(String[] args) {
        whatIsAName();
        firstWords();
        heWords();
        shortAndLongNames();
        justOnePerson();
        toldSexes();
        Tales.finish();
    }

    private static void dueKinds(String tale, int... want) {
        Tales.dueOfMentions(tale, Tales.of(tale), 3, want);
    }

    private static void duePersons(String tale, int... want) {
        Tales.dueOfMentions(tale, Tales.of(tale), 4, want);
    }

    private static void whatIsAName() {
        dueKinds("x A");
        dueKinds("x Al", 0);
        dueKinds("x Abcdefghij", 0);
        dueKinds("x Abcdefghijk");
        dueKinds("x ALbert AlberT alBert AL");
        dueKinds("x Al7Bo", 0, 0);
        dueKinds("x @Al[Bo`Cy{", 0, 0, 0);
        dueKinds("x Is And Was", 0, 0, 0);
    }

    private static void firstWords() {
        dueKinds("Al sat.");
        dueKinds("Al sat. see Al.", 0, 0);
        dueKinds("see Al. Al sat. Al", 0, 0, 0);
        dueKinds("Al sat. Al ran.");
        dueKinds("Al sat. see Albert.", 0);
        dueKinds("..Al sat, Al", 0, 0);
        dueKinds("7 'Al sat.");
        dueKinds("x.Al sat");
        TaleReader x = Tales.of("Al sat. Bo ran. AL");
        Tales.tell(x, "Al", 0);
        Tales.dueOfMentions("Al TOLD", x, 0, 0);
    }

    private static void heWords() {
        dueKinds("he him his she her hers it its they them their", 1, 1, 1, 2, 2, 2, 3, 3, 4, 4, 4);
        dueKinds("He.Him.His.She.Her.Hers.It.Its.They.Them.Their", 1, 1, 1, 2, 2, 2, 3, 3, 4, 4, 4);
        dueKinds("x He Him His She Her Hers It Its They Them Their");
        dueKinds("HE. hE. hes. theirs. thei. i. t. SHE. ITs. himself");
        dueKinds("x Theirs Hi", 0, 0);
        dueKinds("7 It", 3);
        // A HE-WORD with a capital letter inside a SENTENCE is a WORD still.
        Tales.due("look(1)", Tales.of("see Al and He and Bo").look(1), 2);
    }

    private static void shortAndLongNames() {
        duePersons("see Robert, Rob, Ro, Robertson, Roberta", 0, 0, 1, 0, 0);
        duePersons("see Ro, Rob, Robert, Ro, Rob", 0, 1, 1, 0, 1);
        duePersons("see Jo, John, Jonathan", 0, 1, 2);
        duePersons("see Ann, Ana, Anna, An", 0, 1, 0, 2);
        TaleReader x = Tales.of("see Rob, Robertson, Robert. Rober");
        Tales.due("Robert: look(1)", x.look(1), 1);
        Tales.due("Robert: person(0, 3)", x.person(0, 3), 3);
    }

    private static void justOnePerson() {
        // Annabel and Annarose are two PERSONS; NAMES of both begin with Ann and with Anna.
        duePersons("see Annabel, Annarose, Anna, Ann, Annabella", 0, 1, 2, 3, 4);
        // Of one PERSON again, as JOINED.
        duePersons("see Annabel, Annarose. so Annabel is Annarose. so Anna ran", 0, 0, 0, 0, 0);
        // Two PERSONS' NAMES begin with Anna, but it begins with a NAME of just one.
        TaleReader x = Tales.of("see Annabel, Ann, Annarose, Anna");
        Tales.dueOfMentions("no PIN", x, 4, 0, 0, 0, 0);
        x = Tales.of("see Annabel, Annarose, Bo, Ann, Anna");
        x.pin(3, 2);
        Tales.dueOfMentions("Ann pinned to Bo", x, 4, 0, 1, 2, 2, 2);
    }

    private static void toldSexes() {
        TaleReader x = Tales.of("see Rob, Robert, Bob. he ran.");
        Tales.tell(x, "Robert", 2);
        Tales.dueOfMentions("Robert TOLD", x, 4, 0, 0, 1, 1);
        Tales.due("a NAME that joins", x.person(0, 1), 2);
        Tales.due("FIT", x.mention(3, 5), 2);
        Tales.tell(x, "Rob", 3);
        Tales.due("the SEX that was there first", x.person(0, 1), 3);
        Tales.tell(x, "Rob", 0);
        Tales.due("TOLD with 0", x.person(0, 1), 2);
        Tales.tell(x, "Robert", 0);
        Tales.due("both TOLD with 0", x.person(0, 1), 0);
        // The NAME joined by a PIN, which changes no SEX; that it is found again doesn't either.
        x = Tales.of("see Al, Bo. Bo sat, Bo ran.");
        Tales.tell(x, "Bo", 2);
        Tales.due("Bo: person(1, 1)", x.person(1, 1), 2);
        x.pin(1, 0);
        Tales.dueOfMentions("Bo pinned", x, 4, 0, 0, 0, 0);
        Tales.due("Bo pinned: person(0, 1)", x.person(0, 1), 0);
    }
}
