import java.nio.charset.StandardCharsets;

/** What the tests share: texts put on the TAPE, and answers compared with those that are due. */
final class Tales {
    private static int wrong = 0;

    private Tales() {
    }

    static void due(String call, long got, long want) {
        if (got != want) {
            wrong++;
            System.out.println(call + " answered " + got + ", due is " + want);
        }
    }

    static void due(String call, boolean got, boolean want) {
        due(call, got ? 1 : 0, want ? 1 : 0);
    }

    /** Asks mention(j, what) for j = 0, 1, .. and compares each answer with its due one. */
    static void dueOfMentions(String tale, TaleReader x, int what, int... want) {
        due(tale + ": look(0)", x.look(0), want.length);
        for (int j = 0; j < want.length; j++) {
            due(tale + ": mention(" + j + ", " + what + ")", x.mention(j, what), want[j]);
        }
    }

    /** Puts a text on an empty TAPE. */
    static void put(TaleReader x, String text) {
        put(x, text.getBytes(StandardCharsets.ISO_8859_1));
    }

    static void put(TaleReader x, byte[] bytes) {
        for (int at = 0; at < bytes.length; at += 20) {
            x.feed(number(bytes, at), number(bytes, at + 4), number(bytes, at + 8),
                number(bytes, at + 12), number(bytes, at + 16));
        }
        due("end(" + bytes.length + ")", x.end(bytes.length), true);
    }

    static int number(byte[] bytes, int at) {
        int number = 0;
        for (int i = at; i < at + 4; i++) {
            number = number << 8 | (i < bytes.length ? bytes[i] & 255 : 32);
        }
        return number;
    }

    static int read(TaleReader x, String text) {
        put(x, text);
        return x.read();
    }

    static TaleReader of(String text) {
        TaleReader x = new TaleReader();
        read(x, text);
        return x;
    }

    static boolean tell(TaleReader x, String name, int sex) {
        put(x, name);
        return x.tell(sex);
    }

    /** A NAME of its own for each number below 17576, none of which begins another. */
    static String nameOf(int number) {
        char[] letters = {'Q', (char) ('a' + number / 676 % 26), (char) ('a' + number / 26 % 26),
            (char) ('a' + number % 26)};
        return new String(letters);
    }

    static void finish() {
        System.out.println(wrong == 0 ? "all answers are as due" : wrong + " answers are not as due");
        if (wrong != 0) {
            System.exit(1);
        }
    }
}
