public final class Promise05TellTest {
    public static void main(String[] args) {
        whatIsNoName();
        sexes();
        atMostEight();
        allIsReadAnew();
        Tales.finish();
    }

    private static void whatIsNoName() {
        TaleReader x = new TaleReader();
        String[] wrong = {"", "A", "a", "anna", "ANNA", "AnnA", "Abcdefghijk", "An na", " Anna", "Anna ", "Anna.",
            "Ann\u00e9", "An1", "He", "Him", "His", "She", "Her", "Hers", "It", "Its", "They", "Them", "Their", "he"};
        for (String text : wrong) {
            Tales.due("tell '" + text + "'", Tales.tell(x, text, 1), false);
            Tales.due("the TAPE behind '" + text + "'", x.end(1), false);
        }
        Tales.due("look(7)", x.look(7), 0);
        String[] right = {"An", "Abcdefghij", "Hi", "Hes", "Theirs", "And", "Is"};
        for (String text : right) {
            Tales.due("tell '" + text + "'", Tales.tell(x, text, 1), true);
            Tales.due("the TAPE behind '" + text + "'", x.end(1), false);
        }
        Tales.due("look(7) then", x.look(7), right.length);
    }

    private static void sexes() {
        TaleReader x = Tales.of("see Tim");
        for (int sex = 0; sex <= 3; sex++) {
            Tales.due("tell(" + sex + ")", Tales.tell(x, "Tim", sex), true);
            Tales.due("person(0, 1) of " + sex, x.person(0, 1), sex);
            Tales.due("look(7) of " + sex, x.look(7), 1);
        }
        int[] wrong = {-1, 4, 5, Integer.MIN_VALUE, Integer.MAX_VALUE};
        for (int sex : wrong) {
            Tales.due("tell(" + sex + ")", Tales.tell(x, "Tim", sex), false);
            Tales.due("person(0, 1) behind " + sex, x.person(0, 1), 3);
        }
    }

    private static void atMostEight() {
        TaleReader x = Tales.of("see " + Tales.nameOf(3) + " and " + Tales.nameOf(8));
        for (int i = 0; i < 8; i++) {
            Tales.due("tell " + i, Tales.tell(x, Tales.nameOf(i), 1), true);
        }
        Tales.due("the ninth", Tales.tell(x, Tales.nameOf(8), 2), false);
        Tales.due("its SEX", x.person(1, 1), 0);
        Tales.due("look(7)", x.look(7), 8);
        Tales.due("one of the eight", Tales.tell(x, Tales.nameOf(3), 2), true);
        Tales.due("its new SEX", x.person(0, 1), 2);
        Tales.due("look(7) then", x.look(7), 8);
        x.forget();
        Tales.due("behind forget", Tales.tell(x, Tales.nameOf(8), 2), true);
        Tales.due("its SEX then", x.person(1, 1), 2);
        Tales.due("SEX of the other", x.person(0, 1), 0);
    }

    private static void allIsReadAnew() {
        TaleReader x = Tales.of("Anna met Bob. He saw her.");
        Tales.due("look(0)", x.look(0), 3);
        Tales.tell(x, "Anna", 2);
        Tales.due("look(0) then", x.look(0), 4);
        Tales.dueOfMentions("Anna TOLD", x, 4, 0, 1, 1, 0);
        Tales.tell(x, "Ann", 2);
        Tales.due("a TOLD NAME that only begins a WORD", x.look(0), 4);
        x.forget();
        Tales.tell(x, "Ann", 2);
        Tales.due("only Ann TOLD", x.look(0), 3);
    }
}
