public final class Promise06ForgetTest {
    public static void main(String[] args) {
        TaleReader x = new TaleReader();
        Tales.tell(x, "Anna", 2);
        Tales.tell(x, "Bob", 1);
        Tales.read(x, "Anna met Bob. She ran.");
        Tales.due("look(0)", x.look(0), 3);
        Tales.due("pin(2, 1)", x.pin(2, 1), true);
        Tales.put(x, "Cy");
        x.forget();
        Tales.due("the TAPE stays", x.end(2), true);
        Tales.due("look(7)", x.look(7), 0);
        Tales.due("look(0) then", x.look(0), 2);
        Tales.due("look(6): the PIN stays", x.look(6), 1);
        Tales.due("person(0, 1)", x.person(0, 1), 2);
        Tales.due("mention(1, 5): the PIN of MENTION 2 does nothing", x.mention(1, 5), 1);
        Tales.due("loose(2)", x.loose(2), true);
        x.forget();
        Tales.due("forget again: look(0)", x.look(0), 2);
        Tales.finish();
    }
}
