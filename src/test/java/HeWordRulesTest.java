/** Whose a HE-WORD is, who fits, and what is IN DOUBT. */
public final class HeWordRulesTest {
    public static void main(String[] args) {
        twoSentencesAhead();
        theLastOne();
        inDoubt();
        groups();
        joinedOnes();
        Tales.finish();
    }

    private static void twoSentencesAhead() {
        Tales.due("same", Tales.of("see Al he").mention(1, 4), 0);
        Tales.due("one ahead", Tales.of("see Al. he").mention(1, 4), 0);
        Tales.due("two ahead", Tales.of("see Al.. he").mention(1, 4), 0);
        Tales.due("three ahead", Tales.of("see Al... he").mention(1, 4), -1);
        Tales.due("three ahead: FIT", Tales.of("see Al... he").mention(1, 5), 0);
        Tales.due("behind it", Tales.of("he saw Al").mention(0, 4), -1);
        // A HE-WORD mentions, too.
        Tales.dueOfMentions("a chain", Tales.of("see Al. x. he. x. he. x. x. he"), 4, 0, 0, 0, -1);
    }

    private static void theLastOne() {
        String tale = "see Al and Bo. he saw her. it ran. he sat, she";
        TaleReader x = Tales.of(tale);
        Tales.dueOfMentions(tale, x, 4, 0, 1, 1, 0, -1, 1, 0);
        Tales.dueOfMentions(tale, x, 5, 0, 0, 3, 1, 0, 2, 1);
        Tales.due("Al is a she", x.person(0, 1), 2);
        Tales.due("Bo is a he", x.person(1, 1), 1);
        tale = "see Al. see Bo. see Al. he";
        Tales.dueOfMentions(tale, Tales.of(tale), 4, 0, 1, 0, 0);
        Tales.due("three SEXES", Tales.of("see Al. it").person(0, 1), 3);
    }

    private static void inDoubt() {
        String[] tales = {"see Al. he", "see Al, Bo. he", "see Al. see Bo. he", "see Al. see Bo he", "see Al, Bo he",
            "see Al, Bo, Cy. see Cy. he", "see Al, Bo. see Bo, Cy. he", "see Al, Bo. see Bo. see Al. he",
            "see Al, Bo.. he", "see Al, Bo... he"};
        int[] want = {0, 1, 0, 0, 1, 0, 1, 0, 1, 0};
        for (int i = 0; i < tales.length; i++) {
            TaleReader x = Tales.of(tales[i]);
            Tales.due(tales[i] + " IN DOUBT", x.mention(x.look(0) - 1, 6), want[i]);
            Tales.due(tales[i] + " look(3)", x.look(3), want[i]);
        }
    }

    private static void groups() {
        String tale = "see Al and Bo. see Cy and Di. they. them. it";
        TaleReader x = Tales.of(tale);
        Tales.dueOfMentions(tale, x, 4, 0, 1, 3, 4, 5, 5, -1);
        Tales.dueOfMentions(tale, x, 5, 0, 0, 0, 0, 36, 32, 0);
        Tales.due("two GROUPS of two SENTENCES", x.look(3), 0);
        tale = "see Al and Bo, Cy and Di. he saw their dog. they";
        x = Tales.of(tale);
        Tales.dueOfMentions(tale, x, 4, 0, 1, 3, 4, 4, 5, 5);
        Tales.dueOfMentions(tale, x, 5, 0, 0, 0, 0, 27, 36, 36);
        Tales.dueOfMentions(tale, x, 6, 0, 0, 0, 0, 1, 1, 0);
        // The GROUP is mentioned anew by its NAMES, in the other order, too.
        tale = "see Al and Bo. x. x. see Bo and Al. x. they";
        Tales.due(tale, Tales.of(tale).mention(4, 4), 2);
        // They are mentioned by they, and that is no MENTION of Al.
        tale = "see Al and Bo. they. they. he. they";
        Tales.dueOfMentions(tale, Tales.of(tale), 4, 0, 1, 2, 2, -1, 2);
    }

    private static void joinedOnes() {
        String tale = "see Al. see Bo. so Bo is Al. see Cy. he, she";
        TaleReader x = Tales.of(tale);
        Tales.dueOfMentions(tale, x, 4, 0, 0, 0, 0, 2, 2, 0);
        Tales.dueOfMentions(tale, x, 5, 0, 0, 0, 0, 0, 5, 1);
        Tales.due("person(0, 1)", x.person(0, 1), 2);
    }
}
