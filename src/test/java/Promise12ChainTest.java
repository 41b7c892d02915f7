public final class Promise12ChainTest {
    public static void main(String[] args) {
        TaleReader x = Tales.of("see Al and Bo. he saw Al. they ran. Al was Cy. then Cy is Bo.");
        // Bo is 1, he is Bo, the GROUP 2; Cy 3 is Al (JOINED), then Bo, too.
        int[] chain = {0, 1, 2, 3, 5, 6, 7, 8};
        int[] persons = {0, 1, 3};
        for (int p : persons) {
            for (int k = 0; k < chain.length; k++) {
                Tales.due("chain(" + p + ", " + k + ")", x.chain(p, k), chain[k]);
            }
            Tales.due("chain(" + p + ", 8)", x.chain(p, 8), -1);
        }
        Tales.due("chain(2, 0)", x.chain(2, 0), 4);
        Tales.due("chain(2, 1)", x.chain(2, 1), -1);
        int[] wrong = {-1, 80, Integer.MIN_VALUE, Integer.MAX_VALUE};
        for (int n : wrong) {
            Tales.due("chain(0, " + n + ")", x.chain(0, n), -1);
            Tales.due("chain(" + n + ", 0)", x.chain(n, 0), -1);
        }
        Tales.due("chain(4, 0)", x.chain(4, 0), -1);
        nobodysIsNoChain();
        Tales.finish();
    }

    private static void nobodysIsNoChain() {
        TaleReader x = Tales.of("he saw them. it ran.");
        Tales.due("nobody's: chain(-1, 0)", x.chain(-1, 0), -1);
        Tales.due("nobody's: chain(0, 0)", x.chain(0, 0), -1);
    }
}
