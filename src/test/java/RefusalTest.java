import java.util.function.Supplier;
import java.util.function.ToLongFunction;

/**
 * All promises that refuse: "Of several what is told first. What is refused changes nothing."
 * Each refused call is made alone, on an object whose twin is not called, and both are told to the ground.
 */
public final class RefusalTest {
    private static final int[] FAR_OFF = {-1, Integer.MIN_VALUE, Integer.MAX_VALUE, 1 << 16, -(1 << 16)};
    private static final String PIT = "B8H41H40H33H22H12F09F14F29";

    public static void main(String[] args) {
        pit();
        told();
        acts();
        actsOfTheFull();
        plans();
        seenAndChances();
        slots();
        allOnOne();
        Due.end();
    }

    /** Nothing was ever said to it. */
    private static Strawless fresh() {
        return new Strawless();
    }

    /** 5 HANDS and 3 FIELDS, some of all, slot 0 kept, 1 not. */
    private static Strawless busy() {
        Strawless x = Due.sent(PIT, 1, 2, 3, 4);
        x.seed(17);
        Due.days(x, 2);
        x.keep(0);
        x.lay(1);
        x.turn(1);
        x.see(1, 1, 1);
        return x;
    }

    /** All that can be full is full: THE TEXT (which has a fault), ACTS, the WALL, SEEN, SLOTS. */
    private static Strawless full() {
        Strawless x = Due.sent(PIT, 1, 2, 3, 4);
        x.seed(-3);
        Due.days(x, 4);
        x.keep(0);
        for (int n = 0; n < 8; n++) {
            x.lay(n == 1 || n == 4 || n == 6 ? 0 : 1);
        }
        x.turn(1);
        x.keep(1);
        x.send(4, 1);
        for (int n = 0; n < 6; n++) {
            x.see(0, n, 1);
        }
        for (int n = 0; n < 14; n++) {
            x.write('H');
        }
        return x;
    }

    private static void refused(String call, Supplier<Strawless> life, ToLongFunction<Strawless> calling, int due) {
        Strawless x = life.get();
        Due.is(call, calling.applyAsLong(x), due);
        Due.same(call + ", refused,", Due.printAll(x), Due.printAll(life.get()));
    }

    /** Refused in the same way whatever has been before. */
    private static void refusedAlways(String call, ToLongFunction<Strawless> calling, int due) {
        refused(call + " of a new one", RefusalTest::fresh, calling, due);
        refusedWithHands(call, calling, due);
    }

    private static void refusedWithHands(String call, ToLongFunction<Strawless> calling, int due) {
        refused(call + " of a busy one", RefusalTest::busy, calling, due);
        refused(call + " of a full one", RefusalTest::full, calling, due);
    }

    private static int[] andFarOff(int... more) {
        int[] all = new int[more.length + FAR_OFF.length];
        System.arraycopy(more, 0, all, 0, more.length);
        System.arraycopy(FAR_OFF, 0, all, more.length, FAR_OFF.length);
        return all;
    }

    private static void pit() {
        Due.promise(2, "BAD; FULL");
        for (int letter : andFarOff(256)) {
            refusedAlways("write(" + letter + ")", x -> x.write(letter), -2);
        }
        for (int letter : new int[] {0, 'B', 255}) {
            refused("write(" + letter + ")", RefusalTest::full, x -> x.write(letter), -4);
        }
        Due.promise(5, "LATE: a FAULT");
        refused("pit() of an empty text", RefusalTest::fresh, x -> x.pit(), -3);
        refused("pit() of a full text", RefusalTest::full, x -> x.pit(), -3);
        refused("pit() of a begun text", () -> begun(busy()), x -> x.pit(), -3);
    }

    private static Strawless begun(Strawless x) {
        x.write('H');
        return x;
    }

    private static void told() {
        Due.promise(6, "BAD");
        for (int what : andFarOff(14)) {
            refusedAlways("about(" + what + ")", x -> x.about(what), -2);
        }
        Due.promise(7, "UNKNOWN; BAD");
        refused("hand(0, 0)", RefusalTest::fresh, x -> x.hand(0, 0), -1);
        for (int hand : andFarOff(5)) {
            refusedAlways("hand(" + hand + ", 0)", x -> x.hand(hand, 0), -1);
            refusedAlways("hand(" + hand + ", 4)", x -> x.hand(hand, 4), -1);
        }
        for (int what : andFarOff(4)) {
            refusedWithHands("hand(4, " + what + ")", x -> x.hand(4, what), -2);
        }
        Due.promise(8, "UNKNOWN; BAD");
        refused("field(0, 0)", RefusalTest::fresh, x -> x.field(0, 0), -1);
        for (int field : andFarOff(3)) {
            refusedAlways("field(" + field + ", 0)", x -> x.field(field, 0), -1);
            refusedAlways("field(" + field + ", 2)", x -> x.field(field, 2), -1);
        }
        for (int what : andFarOff(2)) {
            refusedWithHands("field(2, " + what + ")", x -> x.field(2, what), -2);
        }
    }

    private static void acts() {
        Due.promise(10, "UNKNOWN: hand; BAD: task; LATE: it has that");
        refused("send(0, 0)", RefusalTest::fresh, x -> x.send(0, 0), -1);
        for (int hand : andFarOff(5)) {
            refusedAlways("send(" + hand + ", 1)", x -> x.send(hand, 1), -1);
            refusedAlways("send(" + hand + ", 5)", x -> x.send(hand, 5), -1);
        }
        for (int task : andFarOff(5)) {
            refusedWithHands("send(0, " + task + ")", x -> x.send(0, task), -2);
            refusedWithHands("send(4, " + task + ")", x -> x.send(4, task), -2);
        }
        refusedWithHands("send(0, 1)", x -> x.send(0, 1), -3);
        refusedWithHands("send(3, 4)", x -> x.send(3, 4), -3);
        refused("send(4, 0)", RefusalTest::busy, x -> x.send(4, 0), -3);
        refused("send(4, 1)", RefusalTest::full, x -> x.send(4, 1), -3);
        Due.promise(11, "BAD: n; LATE: more than are in store");
        for (int n : andFarOff(0, 10)) {
            refusedAlways("turn(" + n + ")", x -> x.turn(n), -2);
        }
        refused("turn(1)", RefusalTest::fresh, x -> x.turn(1), -3);
        refused("turn(9)", RefusalTest::fresh, x -> x.turn(9), -3);
        refused("turn(2) with all others turned", () -> turnedButOne(busy()), x -> x.turn(2), -3);
        refused("turn(9) with all others turned", () -> turnedButOne(busy()), x -> x.turn(9), -3);
        Due.promise(12, "BAD: sound; LATE: there are no 2 such bricks");
        for (int sound : andFarOff(2)) {
            refusedAlways("lay(" + sound + ")", x -> x.lay(sound), -2);
        }
        refused("lay(0)", RefusalTest::fresh, x -> x.lay(0), -3);
        refused("lay(1)", RefusalTest::fresh, x -> x.lay(1), -3);
        refused("lay(1) of one", () -> oneOfEach(), x -> x.lay(1), -3);
        refused("lay(0) of one", () -> oneOfEach(), x -> x.lay(0), -3);
        Due.promise(14, "LATE: there is none");
        refused("undo()", RefusalTest::fresh, x -> x.undo(), -3);
        refused("undo() behind again", () -> back(full()), x -> x.undo(), -3);
    }

    private static Strawless turnedButOne(Strawless x) {
        int free = x.about(4) + x.about(5) - x.about(6);
        for (int n = 1; n < free; n++) {
            x.turn(1);
        }
        return x;
    }

    private static Strawless oneOfEach() {
        Strawless x = Due.sent("B0H20H10F09", 1, 2);
        x.day();
        return x;
    }

    private static Strawless back(Strawless x) {
        x.again(0);
        return x;
    }

    private static void actsOfTheFull() {
        Due.promise(12, "FULL: it is 8 high; ahead of LATE, behind BAD");
        refused("lay(0)", RefusalTest::full, x -> x.lay(0), -4);
        refused("lay(1)", RefusalTest::full, x -> x.lay(1), -4);
        refused("lay(1), none left", () -> highOfHollow(), x -> x.lay(1), -4);
        refused("lay(2)", () -> highOfHollow(), x -> x.lay(2), -2);
    }

    private static Strawless highOfHollow() {
        Strawless x = Due.sent("B0H41H40", 1, 1);
        Due.days(x, 2);
        for (int n = 0; n < 8; n++) {
            x.lay(0);
        }
        return x;
    }

    private static void plans() {
        Due.promise(15, "BAD: plan, what");
        for (int plan : andFarOff(5, 50000, 100000, 99999, 44445)) {
            refusedAlways("makes(" + plan + ", 0)", x -> x.makes(plan, 0), -2);
            refusedAlways("makes(" + plan + ", 2)", x -> x.makes(plan, 2), -2);
        }
        for (int what : andFarOff(2)) {
            refusedAlways("makes(0, " + what + ")", x -> x.makes(0, what), -2);
            Due.promise(16, "BAD");
            refusedAlways("best(" + what + ")", x -> x.best(what), -2);
        }
        Due.promise(20, "BAD: n, r, looks, what");
        for (int n : andFarOff(0, 9)) {
            refusedAlways("spare(" + n + ", 0, 0, 0)", x -> x.spare(n, 0, 0, 0), -2);
        }
        for (int r : andFarOff(4)) {
            refusedAlways("spare(8, " + r + ", 0, 0)", x -> x.spare(8, r, 0, 0), -2);
        }
        for (int looks : andFarOff(256)) {
            refusedAlways("spare(8, 0, " + looks + ", 0)", x -> x.spare(8, 0, looks, 0), -2);
        }
        for (int what : andFarOff(2)) {
            refusedAlways("spare(8, 0, 0, " + what + ")", x -> x.spare(8, 0, 0, what), -2);
        }
        Due.promise(21, "UNKNOWN");
        refused("share(0, true)", RefusalTest::fresh, x -> x.share(0, true), -1);
        for (int hand : andFarOff(5)) {
            refusedAlways("share(" + hand + ", true)", x -> x.share(hand, true), -1);
            refusedAlways("share(" + hand + ", false)", x -> x.share(hand, false), -1);
        }
    }

    private static void seenAndChances() {
        Due.promise(22, "BAD: r, course, how; FULL: 6");
        for (int r : andFarOff(4)) {
            refusedAlways("see(" + r + ", 0, 0)", x -> x.see(r, 0, 0), -2);
        }
        for (int course : andFarOff(8)) {
            refusedAlways("see(0, " + course + ", 0)", x -> x.see(0, course, 0), -2);
        }
        for (int how : andFarOff(3)) {
            refusedAlways("see(0, 0, " + how + ")", x -> x.see(0, 0, how), -2);
        }
        refused("see(0, 0, 0)", RefusalTest::full, x -> x.see(0, 0, 0), -4);
        refused("see(3, 7, 2)", RefusalTest::full, x -> x.see(3, 7, 2), -4);
        Due.promise(24, "BAD: n, what");
        for (int n : andFarOff(0, 9)) {
            refusedAlways("courses(" + n + ", 0)", x -> x.courses(n, 0), -2);
        }
        for (int what : andFarOff(3)) {
            refusedAlways("courses(8, " + what + ")", x -> x.courses(8, what), -2);
            refusedAlways("courses(1, " + what + ")", x -> x.courses(1, what), -2);
        }
        Due.promise(25, "BAD");
        for (int what : andFarOff(2)) {
            refusedAlways("rests(" + what + ")", x -> x.rests(what), -2);
        }
        Due.promise(26, "BAD: n, h, x");
        for (int n : andFarOff(0, 7)) {
            refusedAlways("chance(" + n + ", 0, 0, true)", x -> x.chance(n, 0, 0, true), -2);
        }
        for (int h : andFarOff(9)) {
            refusedAlways("chance(1, " + h + ", 0, false)", x -> x.chance(1, h, 0, false), -2);
        }
        for (int tenths : andFarOff(11)) {
            refusedAlways("chance(1, 0, " + tenths + ", true)", x -> x.chance(1, 0, tenths, true), -2);
        }
        Due.promise(28, "BAD: m");
        for (int m : andFarOff(0, 21)) {
            refusedAlways("years(" + m + ")", x -> x.years(m), -2);
        }
    }

    private static void slots() {
        Due.promise(29, "UNKNOWN");
        for (int slot : andFarOff(2)) {
            refusedAlways("keep(" + slot + ")", x -> x.keep(slot), -1);
            Due.promise(30, "UNKNOWN");
            refusedAlways("again(" + slot + ")", x -> x.again(slot), -1);
        }
        Due.promise(30, "LATE: none were kept");
        refused("again(0)", RefusalTest::fresh, x -> x.again(0), -3);
        refused("again(1)", RefusalTest::fresh, x -> x.again(1), -3);
        refused("again(1)", RefusalTest::busy, x -> x.again(1), -3);
    }

    /** The lives are what they are said to be, or nothing above would show much. */
    private static void allOnOne() {
        Due.promise(6, "the lives that the others are tried on");
        int[] busy = {5, 3, 8, -1, -1, -1, 1, 1, 1, -1, 2, 8, 1, 26};
        int[] full = {5, 3, 8, -1, -1, -1, 1, 8, 255 - 82, -1, 4, 14, 6, 40};
        for (int what = 0; what < 14; what++) {
            if (busy[what] >= 0) {
                Due.is("busy: about(" + what + ")", busy().about(what), busy[what]);
                Due.is("full: about(" + what + ")", full().about(what), full[what]);
            }
        }
        Due.is("full: fault()", full().fault(), 26);
        Due.is("full: again(1)", full().again(1), 4);
        Due.is("full: bricks are left for a course", Math.min(full().about(4), full().about(5)) >= 2 ? 1 : 0, 1);
    }
}
