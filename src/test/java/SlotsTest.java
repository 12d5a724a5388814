/** Promises 29 and 30: keep, again. */
public final class SlotsTest {
    public static void main(String[] args) {
        refusals();
        keptAndGoneOnFrom();
        slotsStandApart();
        actsAndSlots();
        Due.end();
    }

    private static Strawless busy() {
        Strawless x = Due.of("B7H41H30H20F09F13");
        x.send(0, 1);
        x.send(1, 2);
        x.send(2, 3);
        x.day();
        x.day();
        x.lay(1);
        x.lay(0);
        x.turn(1);
        return x;
    }

    private static void refusals() {
        Strawless x = busy();
        String before = Due.print(x);
        int[] unknown = {-1, 2, Integer.MAX_VALUE, Integer.MIN_VALUE};
        for (int slot : unknown) {
            Due.is("keep(" + slot + ")", x.keep(slot), -1);
            Due.is("again(" + slot + ")", x.again(slot), -1);
        }
        Due.is("again(0), none", x.again(0), -3);
        Due.is("again(1), none", x.again(1), -3);
        Due.same("refused", Due.print(x), before);
        Due.is("undo", x.undo(), 7);
    }

    private static void keptAndGoneOnFrom() {
        Strawless x = busy();
        int acts = x.about(11);
        Due.is("keep(1)", x.keep(1), 2);
        Due.is("acts stay", x.about(11), acts);
        int[] kept = new int[11];
        for (int what = 0; what < 11; what++) {
            kept[what] = x.about(what);
        }
        int left0 = x.field(0, 1);
        int left1 = x.field(1, 1);
        x.send(0, 0);
        x.send(1, 1);
        x.send(2, 2);
        x.day();
        x.rain();
        x.lay(0);
        x.day();
        Due.is("again(1)", x.again(1), 2);
        for (int what = 0; what < 11; what++) {
            Due.is("again: about(" + what + ")", x.about(what), kept[what]);
        }
        Due.is("acts are gone", x.about(11), 0);
        Due.is("undo", x.undo(), -3);
        for (int hand = 0; hand < 3; hand++) {
            Due.is("task", x.hand(hand, 2), hand + 1);
        }
        Due.is("straws 0", x.field(0, 1), left0);
        Due.is("straws 1", x.field(1, 1), left1);
        x.day();
        Due.is("again(1), a second time", x.again(1), 2);
        Due.is("the day", x.about(10), 2);
        x.day();
        x.day();
        Due.is("keep(1) over it", x.keep(1), 4);
        x.day();
        Due.is("again(1)", x.again(1), 4);
    }

    private static void slotsStandApart() {
        Strawless x = Due.of("B1");
        Due.is("keep(0)", x.keep(0), 0);
        x.day();
        Due.is("again(1), none", x.again(1), -3);
        Due.is("keep(1)", x.keep(1), 1);
        x.day();
        Due.is("again(0)", x.again(0), 0);
        Due.is("blows", x.about(9), 0);
        Due.is("again(1)", x.again(1), 1);
        Due.is("blows", x.about(9), 1);
        x.seed(8);
        x.see(0, 0, 0);
        x.write('H');
        x.again(0);
        Due.is("the seed stays", x.seed(0), 8);
        Due.is("what is seen stays", x.about(12), 1);
        Due.is("the text stays", x.about(13), 3);
        x.wipe();
        Due.tell(x, "B1");
        x.pit();
        Due.is("again(0) behind pit", x.again(0), -3);
    }

    private static void actsAndSlots() {
        Strawless x = Due.of("B1");
        x.day();
        x.keep(0);
        x.day();
        x.undo();
        x.undo();
        Due.is("the day", x.about(10), 0);
        Due.is("again(0)", x.again(0), 1);
        x.rain();
        Due.is("undo", x.undo(), 0);
        Due.is("the day", x.about(10), 1);
        for (int n = 0; n < 20; n++) {
            x.day();
        }
        Due.is("acts", x.about(11), 14);
        x.again(0);
        for (int n = 0; n < 3; n++) {
            x.day();
        }
        Due.is("undo", x.undo(), 2);
        Due.is("undo", x.undo(), 1);
        Due.is("undo", x.undo(), 0);
        Due.is("the day", x.about(10), 1);
        Due.is("undo", x.undo(), -3);
    }
}
