/** Promises 9 to 14: day, send, turn, lay, rain, undo. */
public final class ActsTest {
    public static void main(String[] args) {
        dayMoulds();
        dayGathers();
        dayGivesBlows();
        send();
        turn();
        turnedAndLaid();
        lay();
        rain();
        undo();
        undoEach();
        firstIsForgotten();
        Due.end();
    }

    private static void bricksAre(String what, Strawless x, int straw, int sound, int hollow) {
        Due.is(what + ": straw", x.about(3), straw);
        Due.is(what + ": sound", x.about(4), sound);
        Due.is(what + ": hollow", x.about(5), hollow);
    }

    private static void dayMoulds() {
        Due.is("all rest", Due.of("B3H40H31").day(), 0);
        Due.is("plain", Due.sent("B0H40", 1).day(), 4);
        Due.is("strong", Due.sent("B0H41", 1).day(), 6);
        Due.is("slow", Due.sent("B0H42", 1).day(), 3);
        Due.is("slow 1", Due.sent("B0H12", 1).day(), 0);
        Due.is("child", Due.sent("B0H43", 1).day(), 0);
        Due.is("9 of 9", Due.sent("B0H41H11", 1, 1).day(), 9);
        Strawless x = Due.sent("B0H41H40F09", 1, 1);
        Due.is("9 of 10", x.day(), 9);
        bricksAre("9 of 10", x, 0, 0, 9);
        Due.is("the day", x.about(10), 1);
    }

    private static void dayGathers() {
        int[] straw = {4, 3, 2, 1, 3, 2, 1, 0};
        for (int far = 0; far <= 3; far++) {
            Strawless plain = Due.sent("B0H40F" + far + "9", 2);
            plain.day();
            Due.is("plain, far " + far, plain.about(3), straw[far]);
            Strawless slow = Due.sent("B0H42F" + far + "9", 2);
            slow.day();
            Due.is("slow, far " + far, slow.about(3), straw[4 + far]);
            Strawless weak = Due.sent("B0H13F" + far + "9", 2);
            weak.day();
            Due.is("weak, far " + far, weak.about(3), far == 0 ? 1 : 0);
            Due.is("weak leaves, far " + far, weak.field(0, 1), far == 0 ? 8 : 9);
        }
        Strawless strong = Due.sent("B0H41F09", 2);
        strong.day();
        Due.is("strong gathers", strong.about(3), 4);

        Strawless x = Due.sent("B0H30H30H30F05F12", 2, 2, 3);
        Due.is("none moulds", x.day(), 0);
        bricksAre("two in one field", x, 7, 0, 0);
        Due.is("field 0 is bare", x.field(0, 1), 0);
        Due.is("field 1 is bare", x.field(1, 1), 0);
        x.send(0, 1);
        Due.is("moulds", x.day(), 3);
        bricksAre("straw is left", x, 4, 3, 0);
        x.send(1, 1);
        Due.is("moulds", x.day(), 6);
        bricksAre("straw is short", x, 0, 7, 2);
        Due.is("moulds", x.day(), 6);
        bricksAre("no straw", x, 0, 7, 8);

        Strawless same = Due.sent("B0H30H30F09", 1, 2);
        Due.is("gathered ahead of moulding", same.day(), 3);
        bricksAre("gathered ahead of moulding", same, 0, 3, 0);
    }

    private static void dayGivesBlows() {
        Strawless x = Due.sent("B6H40", 1);
        x.day();
        Due.is("2 missing", x.about(9), 2);
        x.turn(1);
        x.day();
        Due.is("1 missing", x.about(9), 3);
        Due.is("nothing is turned", x.about(6), 0);
        x.turn(2);
        x.day();
        Due.is("none missing", x.about(9), 3);
        x.turn(9);
        x.day();
        Due.is("more than asked", x.about(9), 3);
        x.day();
        Due.is("2 missing again", x.about(9), 5);
        Due.is("the day", x.about(10), 5);
        Due.is("bricks", x.about(5), 20);
        Strawless idle = Due.of("B9");
        idle.day();
        Due.is("9 missing", idle.about(9), 9);
    }

    private static void send() {
        Strawless x = fourSends();
        Due.is("task 0", x.hand(0, 2), 0);
        Due.is("task 1", x.hand(1, 2), 2);
        Due.is("acts", x.about(11), 4);
        String before = Due.printToTheGround(fourSends());
        Due.is("send(-1, 0)", x.send(-1, 0), -1);
        Due.is("send(2, 0)", x.send(2, 0), -1);
        Due.is("send(2, 9)", x.send(2, 9), -1);
        Due.is("send(max, 0)", x.send(Integer.MAX_VALUE, 0), -1);
        Due.is("send(0, -1)", x.send(0, -1), -2);
        Due.is("send(0, 5)", x.send(0, 5), -2);
        Due.is("send(0, min)", x.send(0, Integer.MIN_VALUE), -2);
        Due.is("send(0, max)", x.send(0, Integer.MAX_VALUE), -2);
        Due.is("send(0, 0), has it", x.send(0, 0), -3);
        Due.is("send(1, 2), has it", x.send(1, 2), -3);
        Due.same("refused sends", Due.printToTheGround(x), before);
        Due.is("no field", Due.of("B0H10").send(0, 2), -2);
    }

    private static Strawless fourSends() {
        Strawless x = Due.of("B0H40H30F09F15F21");
        Due.is("send(0, 4)", x.send(0, 4), 0);
        Due.is("send(0, 1)", x.send(0, 1), 4);
        Due.is("send(0, 0)", x.send(0, 0), 1);
        Due.is("send(1, 2)", x.send(1, 2), 0);
        return x;
    }

    private static void turn() {
        Strawless x = Due.sent("B9H31H10F09", 1, 2);
        x.day();
        bricksAre("for turning", x, 0, 1, 4);
        Due.is("turn(0)", x.turn(0), -2);
        Due.is("turn(-1)", x.turn(-1), -2);
        Due.is("turn(10)", x.turn(10), -2);
        Due.is("turn(max)", x.turn(Integer.MAX_VALUE), -2);
        Due.is("turn(min)", x.turn(Integer.MIN_VALUE), -2);
        Due.is("turn(6)", x.turn(6), -3);
        Due.is("turn(9)", x.turn(9), -3);
        Due.is("acts", x.about(11), 3);
        Due.is("turn(2)", x.turn(2), 2);
        Due.is("turn(4)", x.turn(4), -3);
        Due.is("turn(3)", x.turn(3), 5);
        Due.is("turn(1)", x.turn(1), -3);
        Due.is("about(6)", x.about(6), 5);
        Due.is("acts", x.about(11), 5);
        Due.is("bricks stay", x.about(4) + x.about(5), 5);
        Strawless y = Due.sent("B9H41H40", 1, 1);
        y.day();
        Due.is("turn(9)", y.turn(9), 9);
        y.day();
        Due.is("blows", y.about(9), 0);
    }

    /** The document lets a course be laid of bricks that are turned: only 2 such bricks are asked. */
    private static void turnedAndLaid() {
        Strawless x = Due.sent("B6H40", 1);
        x.day();
        Due.is("turn(4)", x.turn(4), 4);
        Due.is("lay(0)", x.lay(0), 1);
        Due.is("turned stays", x.about(6), 4);
        Due.is("turn(1)", x.turn(1), -3);
        x.day();
        Due.is("blows", x.about(9), 2);
    }

    private static void lay() {
        Strawless x = Due.sent("B0H41H41H40F09", 1, 0, 2);
        Due.is("lay(1), no bricks", x.lay(1), -3);
        Due.is("lay(0), no bricks", x.lay(0), -3);
        x.day();
        bricksAre("for laying", x, 0, 4, 2);
        Due.is("lay(2)", x.lay(2), -2);
        Due.is("lay(-1)", x.lay(-1), -2);
        Due.is("lay(min)", x.lay(Integer.MIN_VALUE), -2);
        Due.is("lay(0)", x.lay(0), 1);
        Due.is("lay(0), none", x.lay(0), -3);
        bricksAre("one laid", x, 0, 4, 0);
        Due.is("lay(1)", x.lay(1), 2);
        bricksAre("two laid", x, 0, 2, 0);
        Due.is("lay(1)", x.lay(1), 3);
        Due.is("lay(1), none", x.lay(1), -3);
        Due.is("wall", x.about(8), 6);
        Due.is("height", x.about(7), 3);
        Due.is("acts", x.about(11), 6);

        Strawless odd = Due.sent("B0H31F09", 1);
        odd.day();
        Due.is("lay(0)", odd.lay(0), 1);
        Due.is("lay(0)", odd.lay(0), 2);
        Due.is("lay(0), one is left", odd.lay(0), -3);
        Due.is("one is left", odd.about(5), 1);

        Strawless high = Due.sent("B0H41H40", 1, 1);
        high.day();
        high.day();
        for (int n = 1; n <= 8; n++) {
            Due.is("lay(0)", high.lay(0), n);
        }
        Due.is("2 are left", high.about(5), 2);
        Due.is("lay(0), full", high.lay(0), -4);
        Due.is("lay(1), full ahead of late", high.lay(1), -4);
        Due.is("lay(2), bad ahead of full", high.lay(2), -2);
        Due.is("2 are still left", high.about(5), 2);
        Due.is("rain", high.rain(), 7);
        Due.is("lay(0), room again", high.lay(0), 8);
    }

    private static void rainIs(String courses, int... dueHeightAndBits) {
        Strawless x = Due.wall(courses);
        for (int n = 0; n < dueHeightAndBits.length; n += 2) {
            Due.is("rain on " + courses, x.rain(), dueHeightAndBits[n]);
            Due.is("height of " + courses, x.about(7), dueHeightAndBits[n]);
            Due.is("bits of " + courses, x.about(8), dueHeightAndBits[n + 1]);
        }
    }

    private static void rain() {
        rainIs("", 0, 0);
        rainIs("H", 0, 0, 0, 0);
        rainIs("S", 1, 1);
        rainIs("HS", 1, 1, 1, 1);
        rainIs("SH", 1, 1, 1, 1);
        rainIs("SHSHS", 4, 0b1011, 3, 0b111, 3, 0b111);
        rainIs("HHSS", 3, 0b110, 2, 0b11, 2, 0b11);
        rainIs("SSSSSSSH", 7, 127, 7, 127);
        rainIs("HSSSSSSS", 7, 127);
        rainIs("SSSSSSSS", 8, 255);
        rainIs("HHHHHHHH", 7, 0, 6, 0, 5, 0, 4, 0, 3, 0, 2, 0, 1, 0, 0, 0, 0, 0);
        rainIs("SSHHSHSH", 7, 0b0101011, 6, 0b010111, 5, 0b01111, 4, 0b1111);
        Strawless x = Due.of("B0");
        x.rain();
        Due.is("rain on nothing is an act", x.about(11), 1);
    }

    private static void undo() {
        Strawless x = Due.of("B0");
        Due.is("undo, none", x.undo(), -3);
        x.day();
        x.rain();
        Due.is("undo", x.undo(), 1);
        Due.is("day stays", x.about(10), 1);
        Due.is("undo", x.undo(), 0);
        Due.is("day is undone", x.about(10), 0);
        Due.is("undo, none", x.undo(), -3);
        x.day();
        Due.is("acts again", x.about(11), 1);
        Strawless strawy = Due.sent("B0H40F09", 2);
        strawy.day();
        strawy.day();
        strawy.undo();
        Due.is("straw behind undo", strawy.about(3), 4);
        Due.is("straws behind undo", strawy.field(0, 1), 5);
    }

    private static void undoEach() {
        Strawless x = Due.of("B8H41H40H20F09F14");
        String[] prints = new String[13];
        for (int n = 0; n < 12; n++) {
            prints[n] = Due.printOfActs(x);
            act(x, n);
        }
        prints[12] = Due.printOfActs(x);
        x.see(1, 1, 1);
        x.unsee();
        x.keep(0);
        for (int n = 12; n > 0; n--) {
            Due.same("before undo " + n, Due.printOfActs(x), prints[n]);
            Due.is("undo " + n, x.undo(), n - 1);
        }
        Due.same("all undone", Due.printOfActs(x), prints[0]);
        Due.is("undo leaves the slot", x.again(0), 4);
    }

    private static void act(Strawless x, int n) {
        switch (n) {
            case 0: x.send(0, 1); break;
            case 1: x.send(1, 2); break;
            case 2: x.send(2, 3); break;
            case 3: x.day(); break;
            case 4: x.day(); break;
            case 5: x.turn(2); break;
            case 6: x.lay(1); break;
            case 7: x.day(); break;
            case 8: x.day(); break;
            case 9: x.lay(0); break;
            case 10: x.lay(1); break;
            default: x.rain();
        }
        Due.is("acts", x.about(11), n + 1);
    }

    private static void firstIsForgotten() {
        Strawless x = Due.of("B1H40F09");
        x.send(0, 2);
        x.send(0, 1);
        for (int n = 0; n < 33; n++) {
            x.day();
        }
        Due.is("14 acts", x.about(11), 14);
        for (int n = 13; n >= 0; n--) {
            Due.is("undo", x.undo(), n);
            Due.is("the day", x.about(10), 19 + n);
            Due.is("bricks", x.about(5), 4 * (19 + n));
        }
        Due.is("undo, none", x.undo(), -3);
        Due.is("the day", x.about(10), 19);
        x.rain();
        Due.is("acts", x.about(11), 1);
        Due.is("undo", x.undo(), 0);
        Due.is("the day", x.about(10), 19);
    }
}
