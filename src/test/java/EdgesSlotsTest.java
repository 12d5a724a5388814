/** The edges that promises 29 and 30 name: keep, again. */
public final class EdgesSlotsTest {
    public static void main(String[] args) {
        keepInTwoSlots();
        keepOver();
        keepIsNoAct();
        againRefuses();
        againAllAsItWas();
        againWithoutActs();
        againAndAgain();
        againLeavesTheRest();
        againBehindAPit();
        Due.endOfPromises(29, 30);
    }

    private static Strawless busy() {
        Strawless x = Due.sent("B7H41H30H20F09F13", 1, 2, 3);
        Due.days(x, 2);
        x.lay(1);
        x.lay(0);
        x.turn(1);
        return x;
    }

    private static void keepInTwoSlots() {
        Due.promise(29, "SLOTS 0 .. 1: THE DAY. UNKNOWN");
        Strawless x = Due.of("B1");
        Due.is("keep(0), day 0", x.keep(0), 0);
        Due.is("keep(1), day 0", x.keep(1), 0);
        Due.days(x, 3);
        Due.is("keep(0)", x.keep(0), 3);
        x.day();
        Due.is("keep(1)", x.keep(1), 4);
        for (int slot : new int[] {-1, 2, Integer.MIN_VALUE, Integer.MAX_VALUE}) {
            Due.is("keep(" + slot + ")", x.keep(slot), -1);
        }
        Due.is("again(0)", x.again(0), 3);
        Due.is("again(1)", x.again(1), 4);
        Due.promise(29, "nobody, no FIELD are kept too");
        Strawless none = new Strawless();
        Due.is("keep(1)", none.keep(1), 0);
        none.day();
        Due.is("again(1)", none.again(1), 0);
        Due.is("THE DAY", none.about(10), 0);
    }

    private static void keepOver() {
        Due.promise(29, "what was kept there before is gone");
        Strawless x = Due.of("B1");
        for (int day = 0; day < 5; day++) {
            Due.is("keep(1)", x.keep(1), day);
            x.day();
        }
        Due.is("again(1)", x.again(1), 4);
        Due.is("BLOWS", x.about(9), 4);
    }

    private static void keepIsNoAct() {
        Due.promise(29, "keep changes nothing but the SLOT");
        Strawless x = busy();
        String before = Due.print(x);
        x.keep(0);
        x.keep(1);
        x.keep(2);
        Due.same("keep", Due.print(x), before);
        Due.is("undo()", x.undo(), 7);
    }

    private static void againRefuses() {
        Due.promise(30, "UNKNOWN; LATE: none were kept");
        Strawless x = Due.of("B1");
        for (int slot : new int[] {-1, 2, Integer.MIN_VALUE, Integer.MAX_VALUE}) {
            Due.is("again(" + slot + ")", x.again(slot), -1);
        }
        Due.is("again(0)", x.again(0), -3);
        Due.is("again(1)", x.again(1), -3);
        x.keep(0);
        Due.is("again(1), only 0 is kept", x.again(1), -3);
        Strawless y = Due.of("B1");
        y.keep(1);
        Due.is("again(0), only 1 is kept", y.again(0), -3);
        y.keep(2);
        y.keep(-1);
        Due.is("again(0), refused ones keep nothing", y.again(0), -3);
        Due.promise(30, "what is refused changes nothing");
        Strawless z = busy();
        int acts = z.about(11);
        z.again(0);
        z.again(2);
        Due.is("ACTS", z.about(11), acts);
        Due.is("undo()", z.undo(), acts - 1);
    }

    private static void againAllAsItWas() {
        Due.promise(30, "TASKS, STRAWS, STRAW, bricks, what is turned, the WALL, BLOWS, THE DAY are as they were kept");
        for (int slot = 0; slot < 2; slot++) {
            Strawless x = busy();
            x.send(0, 0);
            x.day();
            x.turn(2);
            x.undo();
            x.turn(1);
            int[] kept = new int[11];
            for (int what = 3; what <= 10; what++) {
                kept[what] = x.about(what);
            }
            Due.is("keep", x.keep(slot), 3);
            int left0 = x.field(0, 1);
            int left1 = x.field(1, 1);
            x.send(0, 1);
            x.send(1, 3);
            x.send(2, 2);
            Due.days(x, 4);
            x.lay(0);
            x.lay(1);
            x.turn(5);
            x.send(0, 2);
            x.day();
            for (int what : new int[] {3, 4, 5, 6, 7, 8, 9, 10}) {
                Due.is("about(" + what + ") is another", x.about(what) == kept[what] ? 1 : 0, 0);
            }
            Due.is("again", x.again(slot), 3);
            for (int what = 3; what <= 10; what++) {
                Due.is("about(" + what + ")", x.about(what), kept[what]);
            }
            Due.is("TASK 0", x.hand(0, 2), 0);
            Due.is("TASK 1", x.hand(1, 2), 2);
            Due.is("TASK 2", x.hand(2, 2), 3);
            Due.is("STRAWS 0", x.field(0, 1), left0);
            Due.is("STRAWS 1", x.field(1, 1), left1);
        }
    }

    private static void againWithoutActs() {
        Due.promise(30, "no ACTS when one goes on");
        Strawless x = busy();
        x.keep(0);
        Due.is("again(0)", x.again(0), 2);
        Due.is("ACTS", x.about(11), 0);
        Due.is("undo()", x.undo(), -3);
        x.rain();
        Due.is("ACTS", x.about(11), 1);
        Due.is("undo()", x.undo(), 0);
        Due.is("undo()", x.undo(), -3);
        Due.is("how high", x.about(7), 2);
        Due.promise(30, "a full row is empty too, and fills again");
        Due.days(x, 20);
        x.again(0);
        for (int n = 1; n <= 16; n++) {
            x.day();
            Due.is("ACTS", x.about(11), n < 14 ? n : 14);
        }
        for (int n = 13; n >= 0; n--) {
            Due.is("undo()", x.undo(), n);
        }
        Due.is("undo()", x.undo(), -3);
        Due.is("THE DAY", x.about(10), 4);
    }

    private static void againAndAgain() {
        Due.promise(30, "what is kept stays as it was kept, however one goes on");
        Strawless x = busy();
        x.keep(0);
        String kept = Due.printOfActs(x);
        for (int n = 0; n < 3; n++) {
            x.again(0);
            String back = Due.printOfActs(x);
            x.send(0, 0);
            x.send(1, 3);
            x.day();
            x.lay(0);
            x.rain();
            x.again(0);
            Due.same("again(0)", Due.printOfActs(x), back);
        }
        Due.same("again(0), but for ACTS", kept.replaceFirst("( \\d+) \\d+ tasks", "$1 0 tasks"), Due.printOfActs(x));
        Due.promise(30, "the SLOTS stand apart");
        x.day();
        x.keep(1);
        x.day();
        Due.is("again(0)", x.again(0), 2);
        Due.is("again(1)", x.again(1), 3);
        Due.is("again(0)", x.again(0), 2);
        Due.promise(30, "undo does not reach what was kept");
        x.day();
        x.keep(0);
        x.undo();
        Due.is("THE DAY", x.about(10), 2);
        Due.is("again(0)", x.again(0), 3);
    }

    private static void againLeavesTheRest() {
        Due.promise(30, "THE TEXT, SEEN and THE SEED are not kept");
        Strawless x = busy();
        x.seed(4);
        x.see(0, 0, 1);
        x.keep(0);
        x.seed(5);
        x.see(0, 1, 1);
        x.write('H');
        int bytes = x.about(13);
        x.again(0);
        Due.is("THE SEED", x.seed(0), 5);
        Due.is("SEEN", x.about(12), 2);
        Due.is("bytes", x.about(13), bytes);
        x.unsee();
        x.wipe();
        x.again(0);
        Due.is("SEEN", x.about(12), 0);
        Due.is("bytes", x.about(13), 0);
    }

    private static void againBehindAPit() {
        Due.promise(30, "LATE behind a new PIT, but not behind a refused one");
        Strawless x = busy();
        x.keep(0);
        x.keep(1);
        x.write('X');
        Due.is("pit(), refused", x.pit(), -3);
        Due.is("again(0)", x.again(0), 2);
        Due.is("again(1)", x.again(1), 2);
        Due.tell(x, "B7H41H30H20F09F13");
        Due.is("pit()", x.pit(), 32);
        Due.is("again(0)", x.again(0), -3);
        Due.is("again(1)", x.again(1), -3);
        x.keep(1);
        Due.is("again(0)", x.again(0), -3);
        Due.is("again(1)", x.again(1), 0);
    }
}
