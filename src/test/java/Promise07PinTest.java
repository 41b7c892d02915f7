public final class Promise07PinTest {
    public static void main(String[] args) {
        wrongPins();
        anotherPinOfTheSameGoes();
        atMostTwenty();
        pinnedHeWords();
        pinnedNames();
        pinnedToNobody();
        pinnedToGroups();
        numbersMayBeginToMeanOthers();
        Tales.finish();
    }

    private static void wrongPins() {
        TaleReader x = Tales.of("so Tim saw Jim. he ran.");
        int[][] wrong = {{0, 0}, {2, 2}, {1, 2}, {3, 0}, {3, 3}, {-1, -2}, {1, -1}, {-1, 0}, {80, 0},
            {Integer.MAX_VALUE, 0}, {0, Integer.MIN_VALUE}, {1, Integer.MAX_VALUE}};
        for (int[] jk : wrong) {
            Tales.due("pin(" + jk[0] + ", " + jk[1] + ")", x.pin(jk[0], jk[1]), false);
        }
        Tales.due("look(6)", x.look(6), 0);
        Tales.dueOfMentions("no PIN", x, 4, 0, 1, 1);
    }

    private static void anotherPinOfTheSameGoes() {
        TaleReader x = Tales.of("so Tim saw Jim. he ran.");
        Tales.due("pin(2, 0)", x.pin(2, 0), true);
        Tales.due("pin(2, 1)", x.pin(2, 1), true);
        Tales.due("look(6)", x.look(6), 1);
        Tales.due("mention(2, 4)", x.mention(2, 4), 1);
        Tales.due("mention(2, 5)", x.mention(2, 5), 0);
    }

    private static void atMostTwenty() {
        TaleReader x = Tales.of("see Tim" + " he".repeat(30));
        for (int j = 1; j <= 20; j++) {
            Tales.due("pin(" + j + ", 0)", x.pin(j, 0), true);
        }
        Tales.due("pin 21", x.pin(21, 0), false);
        Tales.due("mention(21, 5)", x.mention(21, 5), 1);
        Tales.due("a pinned one when there are 20", x.pin(20, 1), false);
        Tales.due("look(6)", x.look(6), 20);
        Tales.due("loose(7)", x.loose(7), true);
        Tales.due("pin 21 then", x.pin(21, 0), true);
        Tales.due("look(6) then", x.look(6), 20);
    }

    private static void pinnedHeWords() {
        String tale = "so Tim saw Jim. he ran. she sat, he ran.";
        TaleReader x = Tales.of(tale);
        Tales.dueOfMentions(tale, x, 4, 0, 1, 1, 0, 1);
        Tales.due("pin(2, 0)", x.pin(2, 0), true);
        // Nobody has a SEX by the pinned he, so that she is Tim, who was mentioned last by it.
        Tales.dueOfMentions("pin(2, 0)", x, 4, 0, 1, 0, 0, 1);
        Tales.dueOfMentions("pin(2, 0)", x, 5, 0, 0, 0, 3, 2);
        Tales.dueOfMentions("pin(2, 0)", x, 6, 0, 0, 0, 0, 0);
        Tales.due("person(0, 1)", x.person(0, 1), 2);
        Tales.due("person(1, 1)", x.person(1, 1), 1);
    }

    private static void pinnedNames() {
        TaleReader x = Tales.of("so Tim saw Jim. then Jim saw Timothy and Jimmy.");
        Tales.tell(x, "Jim", 1);
        Tales.due("pin(1, 0)", x.pin(1, 0), true);
        Tales.dueOfMentions("Jim is Tim's", x, 4, 0, 0, 0, 0, 0);
        Tales.due("the PIN changes no SEX", x.person(0, 1), 0);
        Tales.due("names", x.person(0, 3), 4);
        Tales.due("who(1)", x.who(1), 0);
        Tales.due("loose(1)", x.loose(1), true);
        Tales.due("pin(2, 0)", x.pin(2, 0), true);
        // Jim is a NAME of PERSON 1, and stays so, though MENTION 2 is of PERSON 0.
        Tales.dueOfMentions("MENTION 2 is Tim's", x, 4, 0, 1, 0, 0, 1);
        Tales.due("who(2)", x.who(2), 1);
        Tales.due("person(0, 3)", x.person(0, 3), 2);
        Tales.due("person(1, 3)", x.person(1, 3), 2);
        Tales.due("the PIN of a NAME has it in GROUPS", x.look(1), 3);
    }

    private static void pinnedToNobody() {
        TaleReader x = Tales.of("he saw Tim. then Tim ran.");
        Tales.due("pin(1, 0)", x.pin(1, 0), true);
        Tales.dueOfMentions("nobody's", x, 4, -1, -1, 0);
        Tales.due("look(4)", x.look(4), 2);
        Tales.due("name(0, 0)", x.name(0, 0), 2);
        Tales.due("who(1)", x.who(1), 0);
        Tales.due("pin(2, 1)", x.pin(2, 1), true);
        Tales.due("look(4) then", x.look(4), 3);
        Tales.due("look(1) then", x.look(1), 0);
        Tales.due("who(1) then", x.who(1), -1);
    }

    private static void pinnedToGroups() {
        TaleReader x = Tales.of("see Al and Bo. they saw Cy and Al. then Cy is Bo.");
        Tales.dueOfMentions("no PIN", x, 4, 0, 1, 2, 1, 0, 1, 1);
        Tales.due("no PIN: look(1)", x.look(1), 5);
        Tales.due("pin(3, 2)", x.pin(3, 2), true);
        // Cy is of the GROUP, who have no NAME: no GROUP of Cy and Al; a later Cy is a new PERSON.
        Tales.dueOfMentions("pin(3, 2)", x, 4, 0, 1, 2, 2, 0, 1, 1);
        Tales.due("pin(3, 2): look(1)", x.look(1), 4);
        Tales.due("pin(3, 2): person(2, 3)", x.person(2, 3), 0);
        Tales.due("pin(3, 2): person(2, 2)", x.person(2, 2), 2);
        Tales.due("pin(3, 2): who(3)", x.who(3), 1);
        Tales.due("pin(3, 2): name(1, 1)", x.name(1, 1), 5);
        Tales.due("pin(5, 2)", x.pin(5, 2), true);
        // A GROUP is JOINED to nobody.
        Tales.dueOfMentions("pin(5, 2)", x, 4, 0, 1, 2, 2, 0, 2, 1);
        Tales.due("pin(5, 2): look(1)", x.look(1), 3);
        Tales.due("pin(5, 2): who(3)", x.who(3), -1);
    }

    private static void numbersMayBeginToMeanOthers() {
        TaleReader x = Tales.of("Anna met Bob. He saw him.");
        Tales.due("pin(2, 1)", x.pin(2, 1), true);
        Tales.due("pin(2, 1): mention(1, 5)", x.mention(1, 5), 1);
        Tales.tell(x, "Anna", 0);
        Tales.dueOfMentions("Anna TOLD", x, 4, 0, 1, 1, 1);
        Tales.dueOfMentions("Anna TOLD", x, 5, 0, 0, 0, 3);
    }
}
