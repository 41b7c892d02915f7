public final class Promise14WhoTest {
    public static void main(String[] args) {
        TaleReader x = Tales.of("see Al and Bo. he saw Cy. then Cy is Al. they ran.");
        int[] want = {0, 1, -1, 0, 0, 0, -1};
        for (int j = 0; j < want.length; j++) {
            Tales.due("who(" + j + ")", x.who(j), want[j]);
        }
        int[] wrong = {-1, 7, 79, 80, Integer.MIN_VALUE, Integer.MAX_VALUE};
        for (int j : wrong) {
            Tales.due("who(" + j + ")", x.who(j), -1);
        }
        Tales.due("pin(1, 0)", x.pin(1, 0), true);
        Tales.due("a pinned NAME: who(1)", x.who(1), 0);
        Tales.finish();
    }
}
