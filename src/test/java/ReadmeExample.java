/** How the class is used: README.md shows this file and what it prints. */
public final class ReadmeExample {
    private static final String TALE = "so Anna met Tim and Jim. they ran. he fell. then Timothy was Batman.";

    public static void main(String[] args) {
        TaleReader x = new TaleReader();
        put(x, "Anna");
        x.tell(2);
        put(x, TALE);
        System.out.println(x.read() + " MENTIONS, " + x.look(1) + " PERSONS, " + x.look(3) + " IN DOUBT");
        System.out.println("he is PERSON " + x.mention(4, 4) + ", out of the set " + x.mention(4, 5));
        x.pin(4, 1);
        System.out.println("now he is PERSON " + x.mention(4, 4) + ", as Tim is");
        for (int p = 0; p < x.look(1); p++) {
            System.out.println("PERSON " + p + ": " + chainOf(x, p));
        }
    }

    private static String chainOf(TaleReader x, int p) {
        if (x.person(p, 0) != p) {
            return "JOINED to PERSON " + x.person(p, 5);
        }
        StringBuilder line = new StringBuilder("SEX " + x.person(p, 1));
        for (int k = 0; k < x.person(p, 2); k++) {
            int place = x.mention(x.chain(p, k), 0);
            line.append(", ").append(TALE, place, place + x.mention(x.chain(p, k), 1)).append(" at ").append(place);
        }
        return line.toString();
    }

    /** A text of up to 600 signs comes on the empty TAPE, twenty bytes a call; what fills the last call up is cut off. */
    private static void put(TaleReader x, String text) {
        for (int i = 0; i < text.length(); i += 20) {
            x.feed(four(text, i), four(text, i + 4), four(text, i + 8), four(text, i + 12), four(text, i + 16));
        }
        x.end(text.length());
    }

    private static int four(String text, int from) {
        int number = 0;
        for (int i = from; i < from + 4; i++) {
            number = number << 8 | (i < text.length() ? text.charAt(i) : 0);
        }
        return number;
    }
}
