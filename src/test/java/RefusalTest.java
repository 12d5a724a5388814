/** All promises: "What is refused changes nothing", told by a twin to which nothing refused was said. */
public final class RefusalTest {
    private static final int[] FAR_OFF = {-1, Integer.MIN_VALUE, Integer.MAX_VALUE, 1 << 16, -(1 << 16)};

    public static void main(String[] args) {
        for (int history = 0; history < 6; history++) {
            Strawless twin = lived(history);
            Strawless x = lived(history);
            for (int far : FAR_OFF) {
                refuseAll(x, far);
            }
            refuseLate(x, history);
            compare(history, x, twin);
        }
        Due.end();
    }

    private static void compare(int history, Strawless x, Strawless twin) {
        String name = "history " + history;
        Due.same(name, Due.printToTheGround(x), Due.printToTheGround(twin));
        for (int slot = 0; slot < 2; slot++) {
            Due.is(name + ": again", x.again(slot), twin.again(slot));
            Due.same(name + ": slot " + slot, Due.print(x), Due.print(twin));
        }
        Due.is(name + ": pit", x.pit(), twin.pit());
        Due.same(name + ": pit", Due.print(x), Due.print(twin));
    }

    private static Strawless lived(int history) {
        Strawless x = new Strawless();
        if (history == 0) {
            return x;
        }
        Due.tell(x, "B8H41H40H33H22H12F09F14F29");
        x.pit();
        for (int hand = 0; hand < 5; hand++) {
            x.send(hand, hand % 5);
        }
        x.seed(17);
        if (history >= 2) {
            x.day();
            x.keep(0);
            x.lay(1);
            x.turn(1);
            x.see(1, 1, 1);
        }
        if (history >= 3) {
            for (int n = 0; n < 20; n++) {
                x.day();
            }
            x.keep(1);
        }
        if (history >= 4) {
            for (int n = 0; n < 8; n++) {
                x.lay(n < 1 ? 1 : 0);
            }
            for (int n = 0; n < 6; n++) {
                x.see(0, 2, 2);
            }
        }
        if (history >= 5) {
            for (int n = 0; n < 40; n++) {
                x.write('H');
            }
        }
        return x;
    }

    private static void refused(String call, long got, long... may) {
        for (long one : may) {
            if (got == one) {
                return;
            }
        }
        Due.is(call, got, may[0]);
    }

    private static void refuseAll(Strawless x, int far) {
        String with = " with " + far;
        refused("write" + with, x.write(far), -2);
        refused("about" + with, x.about(far), -2);
        refused("hand" + with, x.hand(far, 0), -1);
        refused("hand" + with, x.hand(0, far), -2, -1);
        refused("field" + with, x.field(far, 0), -1);
        refused("field" + with, x.field(0, far), -2, -1);
        refused("send" + with, x.send(far, 1), -1);
        refused("send" + with, x.send(0, far), -2, -1);
        refused("turn" + with, x.turn(far), -2);
        refused("lay" + with, x.lay(far), -2);
        refused("makes" + with, x.makes(far, 0), -2);
        refused("makes" + with, x.makes(0, far), -2);
        refused("best" + with, x.best(far), -2);
        refused("spare" + with, x.spare(far, 0, 0, 0), -2);
        refused("spare" + with, x.spare(8, far, 0, 0), -2);
        refused("spare" + with, x.spare(8, 0, far, 0), -2);
        refused("spare" + with, x.spare(8, 0, 0, far), -2);
        refused("share" + with, x.share(far, true), -1);
        refused("see" + with, x.see(far, 0, 0), -2);
        refused("see" + with, x.see(0, far, 0), -2);
        refused("see" + with, x.see(0, 0, far), -2);
        refused("courses" + with, x.courses(far, 0), -2);
        refused("courses" + with, x.courses(8, far), -2);
        refused("rests" + with, x.rests(far), -2);
        refused("chance" + with, x.chance(far, 0, 0, true), -2);
        refused("chance" + with, x.chance(1, far, 0, true), -2);
        refused("chance" + with, x.chance(1, 0, far, true), -2);
        refused("years" + with, x.years(far), -2);
        refused("keep" + with, x.keep(far), -1);
        refused("again" + with, x.again(far), -1);
    }

    private static void refuseLate(Strawless x, int history) {
        if (history == 0) {
            refused("pit", x.pit(), -3);
            refused("turn", x.turn(1), -3);
            refused("lay", x.lay(0), -3);
            refused("lay", x.lay(1), -3);
            refused("undo", x.undo(), -3);
            refused("send", x.send(0, 0), -1);
        } else {
            refused("send", x.send(4, 4), -3);
            refused("send", x.send(4, 5), -2);
            refused("send", x.send(5, 0), -1);
        }
        if (history < 2) {
            refused("again(0)", x.again(0), -3);
        }
        if (history < 3) {
            refused("turn", x.turn(9), -3);
            refused("again(1)", x.again(1), -3);
        }
        if (history >= 4) {
            refused("lay", x.lay(0), -4);
            refused("see", x.see(0, 0, 0), -4);
        }
        if (history >= 5) {
            refused("write", x.write('B'), -4);
            refused("pit", x.pit(), -3);
        }
    }
}
