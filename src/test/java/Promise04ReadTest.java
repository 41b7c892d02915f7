public final class Promise04ReadTest {
    public static void main(String[] args) {
        theTapeIsEmptyThen();
        pinsGoAndToldNamesStay();
        theTaleIsReplaced();
        moreThanEightyMentionsAreCut();
        Tales.finish();
    }

    private static void theTapeIsEmptyThen() {
        TaleReader x = Tales.of("so Tim saw Jim.");
        Tales.due("end(1)", x.end(1), false);
        Tales.due("feed", x.feed(0, 0, 0, 0, 0), 20);
        Tales.due("read() of no WORD", x.read(), 0);
        Tales.due("read() of an empty TAPE", x.read(), 0);
    }

    private static void pinsGoAndToldNamesStay() {
        TaleReader x = Tales.of("so Tim saw Jim. he ran.");
        Tales.due("pin(2, 0)", x.pin(2, 0), true);
        Tales.due("tell Al", Tales.tell(x, "Al", 1), true);
        Tales.due("read()", Tales.read(x, "Al saw Jim. he ran."), 3);
        Tales.due("look(6)", x.look(6), 0);
        Tales.due("look(7)", x.look(7), 1);
        Tales.due("mention(2, 4)", x.mention(2, 4), 1);
        Tales.due("person(0, 1)", x.person(0, 1), 1);
    }

    private static void theTaleIsReplaced() {
        TaleReader x = Tales.of("so Tim saw Jim and Al. they ran.");
        Tales.due("look(1)", x.look(1), 4);
        Tales.due("read()", Tales.read(x, "see Sue"), 1);
        Tales.due("look(1) then", x.look(1), 1);
        Tales.due("look(2) then", x.look(2), 1);
        Tales.due("mention(0, 1) then", x.mention(0, 1), 3);
        Tales.due("mention(1, 0) then", x.mention(1, 0), -1);
        Tales.due("chain(0, 1) then", x.chain(0, 1), -1);
    }

    private static void moreThanEightyMentionsAreCut() {
        TaleReader x = Tales.of("x" + " he".repeat(80));
        Tales.due("80: look(0)", x.look(0), 80);
        Tales.due("80: look(5)", x.look(5), 0);
        Tales.due("80: look(4)", x.look(4), 80);
        Tales.due("81: read()", Tales.read(x, "x" + " he".repeat(81)), 80);
        Tales.due("81: look(5)", x.look(5), 1);
        Tales.due("81: mention(79, 0)", x.mention(79, 0), 2 + 3 * 79);
        Tales.due("81: mention(80, 0)", x.mention(80, 0), -1);
        // The NAMES behind the 80th MENTION are no MENTIONS, but they make a first WORD a NAME.
        Tales.due("cut NAME", Tales.read(x, "Al sat." + " he".repeat(79) + " Al"), 80);
        Tales.due("cut NAME: mention(0, 3)", x.mention(0, 3), 0);
        Tales.due("cut NAME: person(0, 2)", x.person(0, 2), 80);
        // A GROUP and an IS need both their NAMES to be MENTIONS.
        Tales.read(x, "x" + " he".repeat(79) + " Al and Bo");
        Tales.due("cut GROUP: look(1)", x.look(1), 1);
        Tales.read(x, "x" + " he".repeat(78) + " Al and Bo and Cy");
        Tales.due("cut GROUP of three: look(1)", x.look(1), 3);
        Tales.due("cut GROUP of three: person(2, 4)", x.person(2, 4), 3);
        Tales.read(x, "x" + " he".repeat(79) + " Al is Bo");
        Tales.due("cut IS: look(1)", x.look(1), 1);
    }
}
