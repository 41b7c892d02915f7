public final class Promise11PersonTest {
    public static void main(String[] args) {
        aPersonAndAGroup();
        joinedOnes();
        joinedTwice();
        atMostThirty();
        Tales.finish();
    }

    private static void dueOfPerson(TaleReader x, int p, int... want) {
        for (int what = 0; what < want.length; what++) {
            Tales.due("person(" + p + ", " + what + ")", x.person(p, what), want[what]);
        }
    }

    private static void aPersonAndAGroup() {
        TaleReader x = Tales.of("so Tim and Sue came. They sang. Sue saw Timothy. he ran. they sang.");
        dueOfPerson(x, 0, 0, 1, 3, 2, 0, -1);
        dueOfPerson(x, 1, 1, 0, 2, 1, 0, -1);
        dueOfPerson(x, 2, 2, 4, 1, 0, 3, -1);
        int[] wrong = {-1, 3, 29, 30, 31, Integer.MIN_VALUE, Integer.MAX_VALUE};
        for (int p : wrong) {
            dueOfPerson(x, p, -1, -1, -1, -1, -1, -1, -1);
        }
        int[] whats = {-1, 6, Integer.MIN_VALUE, Integer.MAX_VALUE};
        for (int what : whats) {
            Tales.due("person(0, " + what + ")", x.person(0, what), -1);
        }
        Tales.due("they three SENTENCES behind They", x.mention(6, 4), -1);
    }

    private static void joinedOnes() {
        TaleReader x = Tales.of("see Al and Bo and Cy. she saw Dan. then Cy is Al.");
        // she is Cy (2), the GROUP is 3, Dan 4.
        dueOfPerson(x, 0, 0, 2, 5, 2, 0, -1);
        dueOfPerson(x, 2, 0, 2, 5, 2, 0, 0);
        dueOfPerson(x, 3, 3, 4, 0, 0, 3, -1);
        dueOfPerson(x, 4, 4, 0, 1, 1, 0, -1);
        Tales.due("look(1)", x.look(1), 5);
    }

    private static void joinedTwice() {
        TaleReader x = Tales.of("see Al, Bo, Cy. then Cy is Bo. then Cy is Al.");
        dueOfPerson(x, 2, 0, 0, 7, 3, 0, 1);
        dueOfPerson(x, 1, 0, 0, 7, 3, 0, 0);
        dueOfPerson(x, 0, 0, 0, 7, 3, 0, -1);
    }

    private static void atMostThirty() {
        StringBuilder tale = new StringBuilder("see");
        for (int i = 0; i < 31; i++) {
            tale.append(' ').append(Tales.nameOf(i));
        }
        tale.append(" and ").append(Tales.nameOf(0)).append(". then ").append(Tales.nameOf(30));
        tale.append(". then ").append(Tales.nameOf(1)).append(" and ").append(Tales.nameOf(2)).append(". they ran.");
        TaleReader x = Tales.of(tale.toString());
        Tales.due("30: look(1)", x.look(1), 30);
        Tales.due("30: mention(29, 4)", x.mention(29, 4), 29);
        Tales.due("30: mention(30, 4)", x.mention(30, 4), -1);
        Tales.due("30: mention(32, 4)", x.mention(32, 4), -1);
        Tales.due("30: who(30)", x.who(30), -1);
        Tales.due("30: mention(35, 3)", x.mention(35, 3), 4);
        Tales.due("30: mention(35, 4): there is no GROUP", x.mention(35, 4), -1);
        Tales.due("30: look(4)", x.look(4), 3);
        Tales.due("30: person(30, 0)", x.person(30, 0), -1);
        Tales.due("30: person(29, 0)", x.person(29, 0), 29);
        Tales.due("30: he", Tales.of("see " + names(30) + " he").mention(30, 5), (1 << 30) - 1);
    }

    private static String names(int count) {
        StringBuilder names = new StringBuilder();
        for (int i = 0; i < count; i++) {
            names.append(Tales.nameOf(i)).append(' ');
        }
        return names.toString();
    }
}
