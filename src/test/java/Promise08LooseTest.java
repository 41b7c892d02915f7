public final class Promise08LooseTest {
    public static void main(String[] args) {
        TaleReader x = Tales.of("so Tim saw Jim. he ran.");
        int[] none = {0, 1, 2, 3, -1, 79, 80, 81, Integer.MIN_VALUE, Integer.MAX_VALUE};
        for (int j : none) {
            Tales.due("loose(" + j + ")", x.loose(j), false);
        }
        x.pin(2, 0);
        x.pin(1, 0);
        for (int j : none) {
            if (j != 1 && j != 2) {
                Tales.due("loose(" + j + ")", x.loose(j), false);
            }
        }
        Tales.due("loose(2)", x.loose(2), true);
        Tales.due("loose(2) again", x.loose(2), false);
        Tales.due("look(6)", x.look(6), 1);
        Tales.due("mention(2, 5)", x.mention(2, 5), 1);
        Tales.due("loose(1)", x.loose(1), true);
        Tales.due("mention(2, 5) then", x.mention(2, 5), 3);
        Tales.due("mention(2, 6) then", x.mention(2, 6), 1);
        Tales.due("look(6) then", x.look(6), 0);
        x.pin(2, 0);
        x.read();
        Tales.due("loose(2) behind read()", x.loose(2), false);
        Tales.finish();
    }
}
