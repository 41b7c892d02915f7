import java.nio.charset.StandardCharsets;

/** What the tests share: texts put on the TAPE, and answers compared with those that are due. */
final class Tales {
    private static int wrong = 0;

    private Tales() {
    }

    static void due(String call, long got, long want) {
        if (got != want) {
            wrong++;
            System.out.println(call + " answered " + got + ", due is " + want);
        }
    }

    static void due(String call, boolean got, boolean want) {
        due(call, got ? 1 : 0, want ? 1 : 0);
    }

    /** Asks mention(j, what) for j = 0, 1, .. and compares each answer with its due one. */
    static void dueOfMentions(String tale, TaleReader x, int what, int... want) {
        due(tale + ": look(0)", x.look(0), want.length);
        for (int j = 0; j < want.length; j++) {
            due(tale + ": mention(" + j + ", " + what + ")", x.mention(j, what), want[j]);
        }
    }

    /** Puts a text on an empty TAPE. */
    static void put(TaleReader x, String text) {
        put(x, text.getBytes(StandardCharsets.ISO_8859_1));
    }

    static void put(TaleReader x, byte[] bytes) {
        for (int at = 0; at < bytes.length; at += 20) {
            x.feed(number(bytes, at), number(bytes, at + 4), number(bytes, at + 8),
                number(bytes, at + 12), number(bytes, at + 16));
        }
        due("end(" + bytes.length + ")", x.end(bytes.length), true);
    }

    static int number(byte[] bytes, int at) {
        int number = 0;
        for (int i = at; i < at + 4; i++) {
            number = number << 8 | (i < bytes.length ? bytes[i] & 255 : 32);
        }
        return number;
    }

    static int read(TaleReader x, String text) {
        put(x, text);
        return x.read();
    }

    static TaleReader of(String text) {
        TaleReader x = new TaleReader();
        read(x, text);
        return x;
    }

    static boolean tell(TaleReader x, String name, int sex) {
        put(x, name);
        return x.tell(sex);
    }

    /** A NAME of its own for each number below 17576, none of which begins another. */
    static String nameOf(int number) {
        char[] letters = {'Q', (char) ('a' + number / 676 % 26), (char) ('a' + number / 26 % 26),
            (char) ('a' + number % 26)};
        return new String(letters);
    }

    /** As many NAMES, one PERSON's each, with the same text between any two. */
    static String names(int count, String between) {
        StringBuilder names = new StringBuilder();
        for (int i = 0; i < count; i++) {
            names.append(i == 0 ? "" : between).append(nameOf(i));
        }
        return names.toString();
    }

    /** All that can be asked, in one text: two of them are alike if nothing was done between. */
    static String all(TaleReader x) {
        StringBuilder all = new StringBuilder();
        for (int what = 0; what < 8; what++) {
            all.append(x.look(what)).append(' ');
        }
        for (int j = 0; j < x.look(0); j++) {
            for (int what = 0; what < 7; what++) {
                all.append(x.mention(j, what)).append(' ');
            }
            all.append(x.who(j)).append(' ');
        }
        for (int p = 0; p < x.look(1); p++) {
            for (int what = 0; what < 6; what++) {
                all.append(x.person(p, what)).append(' ');
            }
            for (int i = 0; i <= x.person(p, 3); i++) {
                all.append(x.name(p, i)).append(' ');
            }
        }
        return all.toString();
    }

    static void dueTheSame(String call, String got, String want) {
        if (!got.equals(want)) {
            wrong++;
            System.out.println(call + " changed what is answered: " + got + ", due is " + want);
        }
    }

    static void finish() {
        System.out.println(wrong == 0 ? "all answers are as due" : wrong + " answers are not as due");
        if (wrong != 0) {
            System.exit(1);
        }
    }
}
