public final class Promise01NewObjectTest {
    public static void main(String[] args) {
        TaleReader x = new TaleReader();
        for (int what = 0; what < 8; what++) {
            Tales.due("new: look(" + what + ")", x.look(what), 0);
        }
        Tales.due("new: mention(0, 0)", x.mention(0, 0), -1);
        Tales.due("new: person(0, 0)", x.person(0, 0), -1);
        Tales.due("new: chain(0, 0)", x.chain(0, 0), -1);
        Tales.due("new: name(0, 0)", x.name(0, 0), -1);
        Tales.due("new: who(0)", x.who(0), -1);
        Tales.due("new: pin(1, 0)", x.pin(1, 0), false);
        Tales.due("new: loose(0)", x.loose(0), false);
        Tales.due("new: tell(0)", x.tell(0), false);
        Tales.due("new: end(0)", x.end(0), true);
        Tales.due("new: end(1)", x.end(1), false);
        Tales.due("new: read()", x.read(), 0);
        x.forget();
        Tales.due("NONE", TaleReader.NONE, -1);
        twoObjectsShareNothing();
        Tales.finish();
    }

    private static void twoObjectsShareNothing() {
        TaleReader x = Tales.of("so Tim sat.");
        Tales.tell(x, "Tim", 1);
        TaleReader y = new TaleReader();
        Tales.due("other object: look(0)", y.look(0), 0);
        Tales.due("other object: look(7)", y.look(7), 0);
        Tales.due("first object: look(0)", x.look(0), 1);
    }
}
