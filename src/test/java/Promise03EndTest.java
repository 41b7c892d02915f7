public final class Promise03EndTest {
    public static void main(String[] args) {
        TaleReader x = new TaleReader();
        x.feed(0x736f2054, 0x696d2061, 0x6e642053, 0x75652072, 0x616e2e20);
        Tales.due("end(21)", x.end(21), false);
        Tales.due("end(-1)", x.end(-1), false);
        Tales.due("end(least)", x.end(Integer.MIN_VALUE), false);
        Tales.due("end(most)", x.end(Integer.MAX_VALUE), false);
        Tales.due("end(20)", x.end(20), true);
        Tales.due("end(6)", x.end(6), true);
        Tales.due("end(7)", x.end(7), false);
        Tales.due("feed at 6", x.feed(0x20202020, 0, 0, 0, 0), 26);
        Tales.due("end(6) again", x.end(6), true);
        Tales.due("read()", x.read(), 1);
        Tales.due("mention(0, 1)", x.mention(0, 1), 3);
        Tales.due("end leaves the TALE: end(0)", x.end(0), true);
        Tales.due("look(0)", x.look(0), 1);
        Tales.due("end(1) of an empty TAPE", x.end(1), false);
        Tales.finish();
    }
}
