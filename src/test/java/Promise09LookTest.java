public final class Promise09LookTest {
    public static void main(String[] args) {
        TaleReader x = Tales.of("see Al and Bo. he saw Cy. then Cy is Al. she ran");
        int[] want = {7, 4, 4, 1, 0, 0, 0, 0};
        for (int what = 0; what < want.length; what++) {
            Tales.due("look(" + what + ")", x.look(what), want[what]);
        }
        int[] wrong = {-1, 8, 9, Integer.MIN_VALUE, Integer.MAX_VALUE};
        for (int what : wrong) {
            Tales.due("look(" + what + ")", x.look(what), -1);
        }
        sentences();
        nobodys();
        Tales.finish();
    }

    private static void sentences() {
        String[] tales = {"", ".", "..", " . ", "a", "a.", "a. ", "a. 7", "a.b", "a.b.", ".a", "...a...", "7", "a\nb"};
        int[] want = {0, 1, 2, 1, 1, 1, 1, 1, 2, 2, 2, 6, 0, 1};
        for (int i = 0; i < tales.length; i++) {
            Tales.due("look(2) of '" + tales[i] + "'", Tales.of(tales[i]).look(2), want[i]);
        }
        Tales.due("look(2) of 600 full stops", Tales.of(".".repeat(600)).look(2), 600);
    }

    private static void nobodys() {
        TaleReader x = Tales.of("he saw her and them. it sat by Tim.");
        Tales.due("nobody's: look(4)", x.look(4), 4);
        Tales.due("nobody's: look(3)", x.look(3), 0);
        Tales.due("nobody's: look(1)", x.look(1), 1);
    }
}
