import java.util.Random;

/** Many made-up tales, TOLD NAMES and PINS: every answer is compared with the second reader's. */
public final class SecondReaderTest {
    private static final String[] NAMES = {"Ann", "Anna", "Annabel", "Annarose", "Bob", "Bobby", "Rob", "Robert", "Jo",
        "John", "Al", "Bo", "Cy", "Max", "Maxwell", "Tom", "Thomas", "Sue", "Is", "Abcdefghij", "Abcdefghijk", "He"};
    private static final String[] SMALL = {"he", "him", "his", "she", "her", "hers", "it", "its", "they", "them",
        "their", "so", "then", "met", "and", "is", "was", "x"};
    private static final String[] PARTS = {" ", " ", " ", " ", ", ", ". ", ".", ".. ", "-", "7", "\n", "\u00e9"};

    private final Random random;
    private final TaleReader first = new TaleReader();
    private final SecondReader second = new SecondReader();

    private SecondReaderTest(long seed) {
        random = new Random(seed);
    }

    public static void main(String[] args) {
        for (int seed = 0; seed < 3000; seed++) {
            new SecondReaderTest(seed).run("run " + seed + ": ");
        }
        Tales.finish();
    }

    private void run(String run) {
        for (int tale = 0; tale < 3; tale++) {
            put(makeTale());
            Tales.due(run + "read()", first.read(), second.read());
            compareAll(run);
            int changes = random.nextInt(3) == 0 ? 30 : 6;
            for (int i = 0; i < changes; i++) {
                change(run);
            }
            compareAll(run);
        }
    }

    private void put(String text) {
        Tales.put(first, text);
        second.tape = text;
    }

    private String pick(String[] from) {
        return from[random.nextInt(from.length)];
    }

    private String makeTale() {
        int length = random.nextInt(4) == 0 ? 600 : random.nextInt(300);
        int kind = random.nextInt(5);
        StringBuilder tale = new StringBuilder();
        while (tale.length() < length) {
            if (kind == 0) {
                addSoup(tale);
            } else if (kind == 1) {
                tale.append(random.nextInt(9) == 0 ? "they. x " : Tales.nameOf(random.nextInt(45)) + " ");
            } else if (kind == 2) {
                tale.append(random.nextBoolean() ? pick(SMALL) + " " : Tales.nameOf(random.nextInt(9)) + " and ");
            } else {
                addSentence(tale);
            }
        }
        return tale.substring(0, Math.min(tale.length(), length));
    }

    private void addSoup(StringBuilder tale) {
        String word = random.nextBoolean() ? pick(NAMES) : pick(SMALL);
        if (random.nextInt(20) == 0) {
            word = word.toUpperCase();
        } else if (random.nextInt(10) == 0) {
            word = word.substring(0, 1).toUpperCase() + word.substring(1);
        }
        tale.append(word).append(pick(PARTS));
    }

    private void addSentence(StringBuilder tale) {
        String a = pick(NAMES);
        String b = pick(NAMES);
        String he = SMALL[random.nextInt(11)];
        String he2 = SMALL[random.nextInt(11)];
        switch (random.nextInt(8)) {
            case 0: tale.append("then ").append(a).append(" and ").append(b).append(" ran. "); break;
            case 1: tale.append("then ").append(a).append(" is ").append(b).append(". "); break;
            case 2: tale.append(a).append(" met ").append(b).append(" and ").append(pick(NAMES)).append(". "); break;
            case 3: tale.append(he).append(" saw ").append(he2).append(". "); break;
            case 4: tale.append("They saw ").append(he).append(". "); break;
            case 5: tale.append(he).append(" saw ").append(a).append(". "); break;
            case 6: tale.append(a).append(" was ").append(b).append(" and ").append(pick(NAMES)).append(". "); break;
            default: tale.append("so ").append(a).append(" and ").append(b).append(" was ").append(pick(NAMES)).append(". ");
        }
    }

    private void change(String run) {
        int mentions = first.look(0);
        int j = random.nextInt(mentions + 3) - 1;
        switch (random.nextInt(8)) {
            case 0:
            case 1: {
                int sex = random.nextInt(20) == 0 ? random.nextInt(9) - 3 : random.nextInt(4);
                put(random.nextInt(20) == 0 ? pick(SMALL) : pick(NAMES));
                Tales.due(run + "tell(" + sex + ")", first.tell(sex), second.tell(sex));
                break;
            }
            case 2:
                if (random.nextInt(4) == 0) {
                    first.forget();
                    second.forget();
                }
                break;
            case 3:
                Tales.due(run + "loose(" + j + ")", first.loose(j), second.loose(j));
                break;
            default: {
                int k = random.nextInt(Math.max(j, 0) + 2) - 1;
                Tales.due(run + "pin(" + j + ", " + k + ")", first.pin(j, k), second.pin(j, k));
            }
        }
        if (random.nextInt(4) == 0) {
            compareAll(run);
        }
    }

    private void compareAll(String run) {
        for (int what = -1; what < 9; what++) {
            Tales.due(run + "look(" + what + ")", first.look(what), second.look(what));
        }
        for (int j = -1; j <= first.look(0); j++) {
            for (int what = -1; what < 8; what++) {
                Tales.due(run + "mention(" + j + ", " + what + ")", first.mention(j, what), second.mention(j, what));
            }
            Tales.due(run + "who(" + j + ")", first.who(j), second.who(j));
        }
        for (int p = -1; p <= first.look(1); p++) {
            for (int what = -1; what < 7; what++) {
                Tales.due(run + "person(" + p + ", " + what + ")", first.person(p, what), second.person(p, what));
            }
            for (int k = -1; k <= Math.max(first.person(p, 2), 0); k++) {
                Tales.due(run + "chain(" + p + ", " + k + ")", first.chain(p, k), second.chain(p, k));
            }
            for (int i = -1; i <= Math.max(first.person(p, 3), 0); i++) {
                Tales.due(run + "name(" + p + ", " + i + ")", first.name(p, i), second.name(p, i));
            }
        }
    }
}
