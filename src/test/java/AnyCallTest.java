import java.util.Random;

/** Any calls with any arguments in any order: none may throw, and the counts stay within their limits. */
public final class AnyCallTest {
    private static final int[] EDGES = {-1, 0, 1, 2, 3, 4, 7, 8, 19, 20, 29, 30, 79, 80, 599, 600, 601,
        Integer.MIN_VALUE, Integer.MAX_VALUE};

    public static void main(String[] args) {
        for (int seed = 0; seed < 2000; seed++) {
            Random random = new Random(seed);
            TaleReader x = new TaleReader();
            for (int call = 0; call < 512; call++) {
                anyCall(x, random);
            }
            within("look(0)", x.look(0), 80);
            within("look(1)", x.look(1), 30);
            within("look(2)", x.look(2), 600);
            within("look(6)", x.look(6), 20);
            within("look(7)", x.look(7), 8);
        }
        Tales.finish();
    }

    private static void within(String call, int got, int most) {
        Tales.due(call + " is " + got + ", within its limits", got >= 0 && got <= most, true);
    }

    private static int any(Random random) {
        return random.nextInt(3) == 0 ? EDGES[random.nextInt(EDGES.length)] : random.nextInt(30);
    }

    private static int anySigns(Random random) {
        String signs = "AaBbCcdhesitmnoy...   and is He Al";
        int number = random.nextInt();
        for (int shift = 0; shift < 32 && random.nextInt(40) != 0; shift += 8) {
            number = number << 8 | signs.charAt(random.nextInt(signs.length()));
        }
        return number;
    }

    private static void anyCall(TaleReader x, Random random) {
        int a = any(random);
        int b = any(random);
        switch (random.nextInt(20)) {
            case 0: x.end(a); break;
            case 1: if (random.nextInt(6) == 0) { x.read(); } break;
            case 2: x.end(random.nextInt(4)); x.tell(a); break;
            case 3: if (random.nextInt(6) == 0) { x.forget(); } break;
            case 4: x.pin(a, b); break;
            case 5: x.loose(a); break;
            case 6: x.look(a); break;
            case 7: x.mention(a, b); break;
            case 8: x.person(a, b); break;
            case 9: x.chain(a, b); break;
            case 10: x.name(a, b); break;
            case 11: x.who(a); break;
            default: x.feed(anySigns(random), anySigns(random), anySigns(random), anySigns(random), anySigns(random));
        }
    }
}
