/** GROUPS, and PERSONS that are one by is or was. */
public final class GroupRulesTest {
    public static void main(String[] args) {
        whatIsAGroup();
        theLeastOfTheSame();
        whatJoins();
        whatDoesNotJoin();
        joinedInGroups();
        Tales.finish();
    }

    private static void dueCount(String tale, int persons) {
        Tales.due(tale + ": look(1)", Tales.of(tale).look(1), persons);
    }

    private static void whatIsAGroup() {
        dueCount("see Al and Bo", 3);
        dueCount("see Al, and: Bo", 3);
        dueCount("see Al and Bo and Cy", 4);
        dueCount("see Al, Bo and Cy", 4);
        dueCount("see Al and. x Bo", 2);
        dueCount("see Al. And Bo", 2);
        dueCount("see Al. and Bo", 2);
        dueCount("see Al and and Bo", 2);
        dueCount("see Al or Bo", 2);
        dueCount("see Al And Bo", 3);
        dueCount("see Al AND Bo", 2);
        dueCount("see Al and the Bo", 2);
        dueCount("see Al and Al", 1);
        dueCount("see Al and he and Bo", 2);
        dueCount("Al and Bo", 1);
        dueCount("Al and Bo. see Al", 3);
        dueCount("see Al and Bo Cy and Di", 6);
        TaleReader x = Tales.of("see Al and Bo and Al and Cy.");
        Tales.due("four NAMES of three: look(1)", x.look(1), 4);
        Tales.due("four NAMES of three: person(3, 4)", x.person(3, 4), 7);
        Tales.due("four NAMES of three: person(3, 2)", x.person(3, 2), 0);
        x = Tales.of("he saw Al. see Bo and Cy and Di.");
        x.pin(2, 0);
        Tales.due("one is nobody's: look(1)", x.look(1), 3);
    }

    private static void theLeastOfTheSame() {
        TaleReader x = Tales.of("see Al and Bo. see Bo and Cy. see Bo and Al. they ran.");
        Tales.due("look(1)", x.look(1), 5);
        Tales.due("they are those mentioned last", x.mention(6, 4), 2);
        Tales.due("FIT", x.mention(6, 5), 4 + 16);
        Tales.due("IN DOUBT", x.mention(6, 6), 0);
        x = Tales.of("see Al and Bo. see Al and Cy. then Cy is Bo. see Cy and Al. they ran.");
        // GROUPS 2 and 4 have the same PERSONS then: the least is mentioned.
        Tales.due("same by JOINED: look(1)", x.look(1), 5);
        Tales.due("same by JOINED: person(4, 4)", x.person(4, 4), 3);
        Tales.due("same by JOINED: they", x.mention(8, 4), 2);
        Tales.due("same by JOINED: FIT", x.mention(8, 5), 4);
    }

    private static void whatJoins() {
        String[] joins = {"see Al is Bo", "see Al was Bo", "see Al, is Bo", "Al is Bo. see Al"};
        for (String tale : joins) {
            Tales.due(tale + ": person(1, 5)", Tales.of(tale).person(1, 5), 0);
        }
        String[] doesNot = {"see Al is. Bo", "see Al Is. x Bo", "see Al is not Bo", "see Al is is Bo", "see Al be Bo",
            "see Al IS Bo", "see Al and Bo", "see Al was he Bo"};
        for (String tale : doesNot) {
            Tales.due(tale + ": person(1, 5)", Tales.of(tale).person(1, 5), -1);
        }
        TaleReader x = Tales.of("see Al is Bo is Cy was Di");
        Tales.dueOfMentions("four in a row", x, 4, 0, 0, 0, 0);
        x = Tales.of("see Al. see Bo and Cy is Al and Di.");
        // The GROUP of Bo and Cy (3) is there ahead of Cy's being Al, that of Al and Di (5) behind it.
        Tales.due("ahead and behind: look(1)", x.look(1), 6);
        Tales.due("ahead and behind: person(3, 4)", x.person(3, 4), 3);
        Tales.due("ahead and behind: person(5, 4)", x.person(5, 4), 1 + 16);
        x = Tales.of("see Al. see Al and Bo is Al.");
        Tales.due("GROUP first: look(1)", x.look(1), 3);
        Tales.due("GROUP first: person(2, 4)", x.person(2, 4), 1);
        x = Tales.of("see Al, Bo. see Al is Bo and Al.");
        Tales.due("IS first: look(1)", x.look(1), 2);
    }

    private static void whatDoesNotJoin() {
        TaleReader x = Tales.of("see Al. he ran. x. x. see Bo. she ran. then Al is Bo.");
        Tales.due("unlike SEXES: person(1, 5)", x.person(1, 5), -1);
        Tales.due("unlike SEXES: person(1, 1)", x.person(1, 1), 2);
        x = Tales.of("see Al. he ran. x. x. see Bo. he ran. then Al is Bo.");
        Tales.due("like SEXES: person(1, 5)", x.person(1, 5), 0);
        x = Tales.of("see Al. x. x. see Bo. she ran. then Al is Bo.");
        Tales.due("one SEX: person(1, 5)", x.person(1, 5), 0);
        Tales.due("one SEX: person(0, 1)", x.person(0, 1), 2);
        x = Tales.of("see Al is Al.");
        Tales.due("the same: person(0, 5)", x.person(0, 5), -1);
        x = Tales.of("he saw Al. see Bo is Cy.");
        x.pin(2, 0);
        Tales.due("nobody is Cy: person(1, 5)", x.person(1, 5), -1);
    }

    private static void joinedInGroups() {
        TaleReader x = Tales.of("see Al and Bo. so Bo is Al. they ran.");
        Tales.due("person(2, 4)", x.person(2, 4), 1);
        Tales.due("person(2, 1)", x.person(2, 1), 4);
        Tales.due("they", x.mention(4, 4), 2);
        x = Tales.of("see Al, Bo. x. x. x. so Bo ran. x. x. so Bo is Al. x. he ran.");
        Tales.due("last mentioned as JOINED", x.mention(5, 4), 0);
        Tales.due("last mentioned as JOINED: FIT", x.mention(5, 5), 1);
    }
}
