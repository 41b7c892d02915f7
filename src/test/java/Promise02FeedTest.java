public final class Promise02FeedTest {
    public static void main(String[] args) {
        theHighestByteIsFirst();
        notMoreThanSixHundred();
        afterEndTheTapeGoesOn();
        bytesAboveAsciiPartWords();
        Tales.finish();
    }

    private static void theHighestByteIsFirst() {
        TaleReader x = new TaleReader();
        // "so Tim and Sue ran. "
        Tales.due("feed", x.feed(0x736f2054, 0x696d2061, 0x6e642053, 0x75652072, 0x616e2e20), 20);
        Tales.due("read()", x.read(), 2);
        Tales.due("mention(0, 0)", x.mention(0, 0), 3);
        Tales.due("mention(1, 0)", x.mention(1, 0), 11);
    }

    private static void notMoreThanSixHundred() {
        TaleReader x = new TaleReader();
        for (int i = 1; i <= 30; i++) {
            Tales.due("feed " + i, x.feed(0, 0, 0, 0, 0), 20 * i);
        }
        Tales.due("feed 31", x.feed(0x61205469, 0x6d202020, 0, 0, 0), -1);
        Tales.due("end(600)", x.end(600), true);
        Tales.due("end(581)", x.end(581), true);
        Tales.due("feed at 581", x.feed(0x61205469, 0x6d202020, 0, 0, 0), -1);
        Tales.due("end(582)", x.end(582), false);
        Tales.due("end(580)", x.end(580), true);
        Tales.due("feed at 580", x.feed(0x61205469, 0x6d202020, 0, 0, 0), 600);
        Tales.due("read()", x.read(), 1);
        Tales.due("mention(0, 0)", x.mention(0, 0), 582);
    }

    private static void afterEndTheTapeGoesOn() {
        TaleReader x = new TaleReader();
        Tales.put(x, "so Ti");
        // "my." behind "so Ti"
        Tales.due("feed at 5", x.feed(0x6d792e20, 0x20202020, 0x20202020, 0x20202020, 0x20202020), 25);
        Tales.due("read()", x.read(), 1);
        Tales.due("mention(0, 1)", x.mention(0, 1), 4);
    }

    private static void bytesAboveAsciiPartWords() {
        TaleReader x = new TaleReader();
        Tales.put(x, new byte[] {'a', (byte) 233, 'T', 'i', 'm', (byte) 174, 'h', 'e', (byte) 255, 'T', 'o', 'm'});
        Tales.due("read()", x.read(), 3);
        Tales.dueOfMentions("bytes above 127", x, 0, 2, 6, 9);
        Tales.due("look(2)", x.look(2), 1);
    }
}
