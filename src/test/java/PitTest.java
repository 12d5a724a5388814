/** Promises 1 to 8: a new object, write, wipe, fault, pit, about, hand, field. */
public final class PitTest {
    public static void main(String[] args) {
        newObject();
        write();
        wipe();
        fault();
        pit();
        pitIsMadeAnew();
        about();
        hand();
        field();
        Due.end();
    }

    private static void newObject() {
        Strawless x = new Strawless();
        for (int what = 0; what <= 13; what++) {
            Due.is("new: about(" + what + ")", x.about(what), 0);
        }
        Due.is("new: hand", x.hand(0, 0), -1);
        Due.is("new: field", x.field(0, 0), -1);
        Due.is("new: fault", x.fault(), 0);
        Due.is("new: undo", x.undo(), -3);
        Due.is("new: again", x.again(0), -3);
        Due.is("new: again", x.again(1), -3);
        Due.is("new: seed", x.seed(0), 0);
        Due.is("new: best", x.best(0), 0);
        Due.is("new: lasts", x.lasts(), 9);
        Due.is("new: keep", x.keep(0), 0);
        Due.is("new: again behind keep", x.again(0), 0);
        Due.is("UNKNOWN", Strawless.UNKNOWN, -1);
        Due.is("BAD", Strawless.BAD, -2);
        Due.is("LATE", Strawless.LATE, -3);
        Due.is("FULL", Strawless.FULL, -4);
        Due.is("NONE", Strawless.NONE, -9);
    }

    private static void write() {
        Strawless x = new Strawless();
        Due.is("write(0)", x.write(0), 1);
        Due.is("write(255)", x.write(255), 2);
        Due.is("write(-1)", x.write(-1), -2);
        Due.is("write(256)", x.write(256), -2);
        Due.is("write(min)", x.write(Integer.MIN_VALUE), -2);
        Due.is("write(max)", x.write(Integer.MAX_VALUE), -2);
        for (int n = 3; n <= 40; n++) {
            Due.is("write", x.write('B'), n);
        }
        Due.is("write, full", x.write('B'), -4);
        Due.is("write(256), full", x.write(256), -2);
        Due.is("about(13), full", x.about(13), 40);
        Due.is("wipe, full", x.wipe(), 40);
        Due.is("write, behind wipe", x.write('B'), 1);
    }

    private static void wipe() {
        Strawless x = Due.of("B3H10F11");
        Due.is("wipe", x.wipe(), 8);
        Due.is("wipe, empty", x.wipe(), 0);
        Due.is("fault, wiped", x.fault(), 0);
        Due.is("count, wiped", x.about(2), 3);
        Due.is("hands, wiped", x.about(0), 1);
        Due.is("pit, wiped", x.pit(), -3);
    }

    private static void faultIs(String text, int want) {
        Strawless x = new Strawless();
        Due.tell(x, text);
        Due.is("fault of " + text, x.fault(), want);
        Due.is("length of " + text, x.about(13), text.length());
    }

    private static void fault() {
        String[] good = {"B0", "B9", "B0H10", "B0H43", "B5F00", "B5F39", "B1F00H10F00H10",
            "B9H10H21H32H43H10F00F19F25", "B9F00F19F25H10H21H32H43H10", "B0H10H10H10H10H10", "B0F00F00F00"};
        for (String text : good) {
            faultIs(text, -9);
        }
        String[] begun = {"", "B", "B0H", "B0H1", "B0H4", "B0F", "B0F0", "B0F3", "B0F39H", "B0H10H10H10H10H10F", "B0F00F00F00H4"};
        for (String text : begun) {
            faultIs(text, text.length());
        }
        String[] atTheLast = {"b", "A", "H", "0", "B/", "B:", "BB", "B00", "B0B", "B0h", "B0G", "B0H0", "B0H5", "B0HH", "B0H1/", "B0H14",
            "B0F4", "B0F/", "B0F0/", "B0F0:", "B0H10X", "B0H10H10H10H10H10H", "B0F00F00F00F", "B9H10H21H32H43H10F00F19F25H",
            "B9H10H21H32H43H10F00F19F25F", "B0F00H10F00H10F00H10F", "B9\u00ff", "\u0000"};
        for (String text : atTheLast) {
            faultIs(text, text.length() - 1);
            faultIs(text + "0H10", text.length() - 1);
            faultIs(text + "\u00ffB0H10", text.length() - 1);
        }
        faultIs("B9H10H21H32H43H10F00F19F25BBBBBBBBBBBBBB", 26);
        faultIs("0123456789012345678901234567890123456789", 0);
    }

    private static void pit() {
        String[] texts = {"B0", "B0H10", "B0F00", "B9H10H21H32H43H10F00F19F25", "B4F10H20F31H31"};
        int[] due = {0, 10, 1, 53, 22};
        for (int n = 0; n < texts.length; n++) {
            Strawless x = new Strawless();
            Due.tell(x, texts[n]);
            Due.is("pit of " + texts[n], x.pit(), due[n]);
            Due.is("pit again of " + texts[n], x.pit(), due[n]);
            Due.is("text of " + texts[n], x.about(13), texts[n].length());
            Due.is("count of " + texts[n], x.about(2), texts[n].charAt(1) - '0');
        }
        Strawless x = Due.of("B4F10H20F31H31");
        Due.is("strength 0", x.hand(0, 0), 2);
        Due.is("strength 1", x.hand(1, 0), 3);
        Due.is("far 0", x.field(0, 0), 1);
        Due.is("far 1", x.field(1, 0), 3);
        Due.is("straws 1", x.field(1, 1), 1);
    }

    private static Strawless busy() {
        Strawless x = Due.of("B7H40H30F09");
        x.send(0, 1);
        x.send(1, 2);
        x.day();
        x.send(1, 0);
        x.day();
        x.lay(1);
        x.turn(1);
        x.keep(0);
        x.keep(1);
        x.see(1, 2, 0);
        x.seed(77);
        return x;
    }

    private static void pitIsMadeAnew() {
        Strawless x = busy();
        x.write('H');
        String before = Due.print(x);
        Due.is("pit with a fault", x.pit(), -3);
        Due.same("pit with a fault", Due.print(x), before);
        Due.is("again behind a refused pit", x.again(1), 2);

        x = busy();
        Due.is("pit anew", x.pit(), 21);
        int[] due = {2, 1, 7, 0, 0, 0, 0, 0, 0, 0, 0, 0, 1, 11};
        for (int what = 0; what < due.length; what++) {
            Due.is("anew: about(" + what + ")", x.about(what), due[what]);
        }
        Due.is("anew: task 0", x.hand(0, 2), 0);
        Due.is("anew: straws", x.field(0, 1), 9);
        Due.is("anew: undo", x.undo(), -3);
        Due.is("anew: again(0)", x.again(0), -3);
        Due.is("anew: again(1)", x.again(1), -3);
        Due.is("anew: seed", x.seed(0), 77);

        Strawless strawy = Due.of("B0H40F09");
        strawy.send(0, 2);
        strawy.day();
        Due.is("straw", strawy.about(3), 4);
        strawy.pit();
        Due.is("anew: straw", strawy.about(3), 0);

        x = busy();
        Due.tell(x, "B0H10");
        Due.is("fewer", x.pit(), 10);
        Due.is("fewer: hand 1", x.hand(1, 0), -1);
        Due.is("fewer: field 0", x.field(0, 0), -1);
        Due.is("fewer: send", x.send(0, 2), -2);
    }

    private static void about() {
        Strawless x = busy();
        // day 1: 4 moulded, 3 sound, 3 blows; day 2: 4 hollow, 3 blows; then a course of 2 sound ones
        int[] due = {2, 1, 7, 0, 1, 5, 1, 1, 1, 6, 2, 7, 1, 11};
        for (int what = 0; what < due.length; what++) {
            Due.is("about(" + what + ")", x.about(what), due[what]);
        }
        Due.is("about(-1)", x.about(-1), -2);
        Due.is("about(14)", x.about(14), -2);
        Due.is("about(min)", x.about(Integer.MIN_VALUE), -2);
        Due.is("about(max)", x.about(Integer.MAX_VALUE), -2);
        Strawless y = Due.of("B0H30F05");
        y.send(0, 2);
        y.day();
        y.day();
        Due.is("straw: about(3)", y.about(3), 5);
    }

    private static void hand() {
        Strawless x = Due.of("B0H40H41H42H43H12F00");
        int[] moulds = {4, 6, 3, 0, 0};
        int[] kinds = {0, 1, 2, 3, 2};
        int[] strengths = {4, 4, 4, 4, 1};
        for (int hand = 0; hand < 5; hand++) {
            Due.is("strength", x.hand(hand, 0), strengths[hand]);
            Due.is("kind", x.hand(hand, 1), kinds[hand]);
            Due.is("task", x.hand(hand, 2), 0);
            Due.is("moulds", x.hand(hand, 3), moulds[hand]);
        }
        x.send(3, 2);
        x.send(1, 1);
        Due.is("task 3", x.hand(3, 2), 2);
        Due.is("task 1", x.hand(1, 2), 1);
        Due.is("task 0", x.hand(0, 2), 0);
        Due.is("moulds 1", x.hand(1, 3), 6);
        Due.is("hand(-1, 0)", x.hand(-1, 0), -1);
        Due.is("hand(5, 0)", x.hand(5, 0), -1);
        Due.is("hand(5, 9)", x.hand(5, 9), -1);
        Due.is("hand(max, 0)", x.hand(Integer.MAX_VALUE, 0), -1);
        Due.is("hand(0, -1)", x.hand(0, -1), -2);
        Due.is("hand(0, 4)", x.hand(0, 4), -2);
        Due.is("hand(1, 0) of one", Due.of("B0H10").hand(1, 0), -1);
        Due.is("moulds 1 strong", Due.of("B0H11").hand(0, 3), 3);
    }

    private static void field() {
        Strawless x = Due.of("B0H40F00F19F35");
        int[] far = {0, 1, 3};
        int[] straws = {0, 9, 5};
        for (int field = 0; field < 3; field++) {
            Due.is("far", x.field(field, 0), far[field]);
            Due.is("straws", x.field(field, 1), straws[field]);
        }
        x.send(0, 3);
        x.day();
        Due.is("straws behind a day", x.field(1, 1), 6);
        Due.is("straws elsewhere", x.field(2, 1), 5);
        Due.is("field(-1, 0)", x.field(-1, 0), -1);
        Due.is("field(3, 0)", x.field(3, 0), -1);
        Due.is("field(3, 5)", x.field(3, 5), -1);
        Due.is("field(min, 0)", x.field(Integer.MIN_VALUE, 0), -1);
        Due.is("field(0, -1)", x.field(0, -1), -2);
        Due.is("field(0, 2)", x.field(0, 2), -2);
        Due.is("field(1, 0) of one", Due.of("B0F00").field(1, 0), -1);
    }
}
