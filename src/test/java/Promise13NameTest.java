public final class Promise13NameTest {
    public static void main(String[] args) {
        joinedOnesAreBehindItsOwn();
        thoseThatComeLaterAreBehindJoinedOnes();
        joinedOfJoinedOnes();
        Tales.finish();
    }

    private static void dueOfNames(TaleReader x, int p, int... want) {
        for (int i = 0; i < want.length; i++) {
            Tales.due("name(" + p + ", " + i + ")", x.name(p, i), want[i]);
        }
        Tales.due("name(" + p + ", " + want.length + ")", x.name(p, want.length), -1);
        Tales.due("person(" + p + ", 3)", x.person(p, 3), want.length);
    }

    private static void joinedOnesAreBehindItsOwn() {
        TaleReader x = Tales.of("see Rob, Bob, Robert, Bobby. then Bobby was Rob.");
        dueOfNames(x, 0, 0, 2, 1, 3);
        dueOfNames(x, 1, 0, 2, 1, 3);
        int[] wrong = {-1, 80, Integer.MIN_VALUE, Integer.MAX_VALUE};
        for (int n : wrong) {
            Tales.due("name(0, " + n + ")", x.name(0, n), -1);
            Tales.due("name(" + n + ", 0)", x.name(n, 0), -1);
        }
        Tales.due("name(2, 0)", x.name(2, 0), -1);
    }

    private static void thoseThatComeLaterAreBehindJoinedOnes() {
        TaleReader x = Tales.of("see Rob, Bob. then Bob was Rob. then Robert met Bobby and Ann.");
        dueOfNames(x, 0, 0, 1, 4, 5);
        dueOfNames(x, 2, 6);
        dueOfNames(x, 3);
    }

    private static void joinedOfJoinedOnes() {
        TaleReader x = Tales.of("see Al, Bo, Cy, Di. then Di is Cy. so Al is Bo. so Cy is Al.");
        dueOfNames(x, 0, 0, 1, 2, 3);
        x = Tales.of("see Al, Bo, Cy, Di. then Di is Bo. then Cy is Al. so Di is Al.");
        dueOfNames(x, 3, 0, 2, 1, 3);
    }
}
