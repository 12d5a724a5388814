import java.util.function.Consumer;

/** The edges that promises 9 to 14 name: day, send, turn, lay, rain, undo. */
public final class EdgesActsTest {
    public static void main(String[] args) {
        dayGathersByStrengthAndWay();
        dayGathersWhatThereIs();
        dayGathersOneBehindTheOther();
        dayGathersAheadOfMoulding();
        dayMouldsNineAtMost();
        dayTakesStrawWhileThereIs();
        dayGivesABlowForEachMissing();
        dayCountsWhatIsTurnedOnce();
        dayComesAfterDay();
        sendByHands();
        sendByTasks();
        sendToWhatItHas();
        turnOneToNine();
        turnWhatIsInStore();
        layOfTwo();
        layEightHigh();
        layOnTop();
        rainOnEveryWall();
        rainOnNothing();
        undoWhenThereIsNone();
        undoOfEachAct();
        undoOfFourteen();
        undoBehindAFullRow();
        undoOnlyActs();
        Due.endOfPromises(9, 14);
    }

    private static void storeIs(String when, Strawless x, int straw, int sound, int hollow) {
        Due.is(when + ": STRAW", x.about(3), straw);
        Due.is(when + ": SOUND", x.about(4), sound);
        Due.is(when + ": HOLLOW", x.about(5), hollow);
    }

    private static void dayGathersByStrengthAndWay() {
        Due.promise(9, "It GATHERS s less d (SLOW 1 less; 0 at least)");
        int[][] others = {{1, 0, 0, 0}, {2, 1, 0, 0}, {3, 2, 1, 0}, {4, 3, 2, 1}};
        int[][] slow = {{0, 0, 0, 0}, {1, 0, 0, 0}, {2, 1, 0, 0}, {3, 2, 1, 0}};
        for (int kind = 0; kind <= 3; kind++) {
            for (int strength = 1; strength <= 4; strength++) {
                for (int far = 0; far <= 3; far++) {
                    Strawless x = Due.sent("B0H" + strength + kind + "F" + far + "9", 2);
                    int due = (kind == 2 ? slow : others)[strength - 1][far];
                    String which = "strength " + strength + ", KIND " + kind + ", far " + far;
                    Due.is("day()", x.day(), 0);
                    storeIs(which, x, due, 0, 0);
                    Due.is(which + ": STRAWS", x.field(0, 1), 9 - due);
                }
            }
        }
    }

    private static void dayGathersWhatThereIs() {
        Due.promise(9, "no more than there are STRAWS in the FIELD");
        for (int straws = 0; straws <= 9; straws++) {
            Strawless x = Due.sent("B0H40F0" + straws, 2);
            x.day();
            int due = straws < 4 ? straws : 4;
            Due.is("STRAW of " + straws, x.about(3), due);
            Due.is("STRAWS left of " + straws, x.field(0, 1), straws - due);
        }
    }

    private static void dayGathersOneBehindTheOther() {
        Due.promise(9, "HANDS that GATHER do so, one behind the other by number");
        int[][] due = {{5, 5, 0}, {6, 6, 0}, {7, 6, 1}};
        for (int[] row : due) {
            Strawless x = Due.sent("B0H30H30F0" + row[0], 2, 2);
            x.day();
            Due.is("STRAW of " + row[0], x.about(3), row[1]);
            Due.is("STRAWS left of " + row[0], x.field(0, 1), row[2]);
        }
        Strawless x = Due.sent("B0H40H30H20H10H40F01F02F03", 4, 4, 3, 2, 2);
        x.day();
        Due.is("STRAW of all FIELDS", x.about(3), 6);
        for (int field = 0; field < 3; field++) {
            Due.is("STRAWS left", x.field(field, 1), 0);
        }
        x.day();
        Due.is("nothing is left to gather", x.about(3), 6);
    }

    private static void dayGathersAheadOfMoulding() {
        Due.promise(9, "Then as many bricks are moulded");
        Strawless first = Due.sent("B0H30H30F09", 1, 2);
        Due.is("HAND 0 MOULDS", first.day(), 3);
        storeIs("HAND 0 MOULDS", first, 0, 3, 0);
        Strawless last = Due.sent("B0H30H30F09", 2, 1);
        Due.is("HAND 1 MOULDS", last.day(), 3);
        storeIs("HAND 1 MOULDS", last, 0, 3, 0);
    }

    private static Strawless allMould(String text) {
        Strawless x = Due.of(text);
        for (int hand = 0; hand < x.about(0); hand++) {
            x.send(hand, 1);
        }
        return x;
    }

    private static void dayMouldsNineAtMost() {
        Due.promise(9, "as all that MOULD can together (9 at most)");
        String[] texts = {"B0", "B0H12", "B0H43", "B0H10", "B0H41H20", "B0H41H30", "B0H41H40", "B0H41H41H41H41H41", "B0H10H10H10H10H10"};
        int[] due = {0, 0, 0, 1, 8, 9, 9, 9, 5};
        for (int n = 0; n < texts.length; n++) {
            Strawless x = allMould(texts[n]);
            Due.is("day() of " + texts[n], x.day(), due[n]);
            storeIs(texts[n], x, 0, 0, due[n]);
        }
        Strawless x = Due.sent("B0H41H41F09F09", 2, 3);
        Due.days(x, 3);
        x.send(0, 1);
        x.send(1, 1);
        Due.is("day() of 12 with 18 STRAW", x.day(), 9);
        storeIs("9 take STRAW", x, 9, 9, 0);
        Due.is("HANDS that REST", Due.of("B0H41H41").day(), 0);
    }

    private static void dayTakesStrawWhileThereIs() {
        Due.promise(9, "each takes a STRAW and is SOUND, as long as there is STRAW; the others are HOLLOW");
        for (int straws = 0; straws <= 9; straws++) {
            Strawless x = Due.sent("B0H40H40F0" + straws, 2);
            Due.days(x, 3);
            Due.is("STRAW", x.about(3), straws);
            x.send(0, 0);
            x.send(1, 1);
            Due.is("day()", x.day(), 4);
            int sound = straws < 4 ? straws : 4;
            storeIs("4 bricks of " + straws, x, straws - sound, sound, 4 - sound);
        }
        Due.promise(9, "all come into store");
        Strawless x = Due.sent("B0H30H10F09", 1, 2);
        for (int n = 1; n <= 4; n++) {
            x.day();
            storeIs("day " + n, x, 0, n, 2 * n);
        }
    }

    private static void dayGivesABlowForEachMissing() {
        Due.promise(9, "each that is missing at COUNT is a BLOW");
        for (int count = 0; count <= 9; count++) {
            Strawless four = Due.sent("B" + count + "H40", 1);
            Strawless nobody = Due.of("B" + count);
            for (int n = 1; n <= 2; n++) {
                four.day();
                nobody.day();
                Due.is("BLOWS, 4 of " + count, four.about(9), count <= 4 ? 0 : n * (count - 4));
                Due.is("BLOWS, none of " + count, nobody.about(9), n * count);
            }
        }
    }

    private static void dayCountsWhatIsTurnedOnce() {
        Due.promise(9, "What is moulded and what is turned is counted");
        int[] due = {2, 1, 0, 0, 0};
        for (int turned = 0; turned <= 4; turned++) {
            Strawless x = Due.sent("B6H40", 1);
            x.day();
            if (turned > 0) {
                x.turn(turned);
            }
            Due.is("day()", x.day(), 4);
            Due.is("BLOWS with " + turned + " turned", x.about(9), 2 + due[turned]);
            Due.is("bricks with " + turned + " turned", x.about(5), 8);
            Due.promise(9, "Then nothing is turned");
            Due.is("turned", x.about(6), 0);
            x.day();
            Due.is("BLOWS a day on", x.about(9), 4 + due[turned]);
        }
    }

    private static void dayComesAfterDay() {
        Due.promise(9, "THE DAY is one more, up to the 512th call");
        Strawless x = new Strawless();
        x.write('B');
        x.write('9');
        x.pit();
        for (int call = 4; call <= 511; call++) {
            x.day();
        }
        Due.is("about(10), the 512th call", x.about(10), 508);
        Strawless blows = new Strawless();
        blows.write('B');
        blows.write('9');
        blows.pit();
        for (int call = 4; call <= 511; call++) {
            blows.day();
        }
        Due.is("about(9), the 512th call", blows.about(9), 508 * 9);
        Strawless bricks = Due.sent("B9H41H41", 1, 1);
        for (int call = 13; call <= 511; call++) {
            Due.is("day()", bricks.day(), 9);
        }
        Due.is("about(5), the 512th call", bricks.about(5), 499 * 9);
    }

    private static void sendByHands() {
        for (int hands = 0; hands <= 5; hands++) {
            Due.promise(10, "UNKNOWN: hand, of " + hands);
            Strawless x = Due.of("B0" + "H10".repeat(hands));
            for (int hand = 0; hand < hands; hand++) {
                Due.is("send(" + hand + ", 1)", x.send(hand, 1), 0);
                Due.is("TASK", x.hand(hand, 2), 1);
            }
            for (int hand : new int[] {-1, hands, hands + 1, 5, Integer.MIN_VALUE, Integer.MAX_VALUE}) {
                Due.is("send(" + hand + ", 0)", x.send(hand, 0), -1);
                Due.is("send(" + hand + ", 1)", x.send(hand, 1), -1);
                Due.is("send(" + hand + ", -1), UNKNOWN ahead of BAD", x.send(hand, -1), -1);
                Due.is("send(" + hand + ", 5), UNKNOWN ahead of BAD", x.send(hand, 5), -1);
            }
            Due.is("ACTS", x.about(11), hands);
        }
    }

    private static void sendByTasks() {
        for (int fields = 0; fields <= 3; fields++) {
            Due.promise(10, "BAD: task (0, 1, 2 and a FIELD), of " + fields);
            Strawless x = Due.of("B0H10H20" + "F00".repeat(fields));
            int had = 0;
            for (int task = 1; task <= 1 + fields; task++) {
                Due.is("send(1, " + task + "): the TASK it had", x.send(1, task), had);
                had = task;
            }
            for (int task : new int[] {-1, 2 + fields, 3 + fields, 5, Integer.MIN_VALUE, Integer.MAX_VALUE}) {
                Due.is("send(1, " + task + ")", x.send(1, task), -2);
                Due.is("send(0, " + task + ")", x.send(0, task), -2);
            }
            Due.is("TASK", x.hand(1, 2), had);
            Due.is("send(1, 0)", x.send(1, 0), had);
            Due.is("TASK", x.hand(1, 2), 0);
            Due.is("TASK of the other", x.hand(0, 2), 0);
            Due.is("ACTS", x.about(11), 2 + fields);
        }
    }

    private static void sendToWhatItHas() {
        Due.promise(10, "LATE: it has that");
        Strawless x = Due.of("B0H10H20F00F00F00");
        for (int task : new int[] {0, 1, 2, 3, 4}) {
            if (task > 0) {
                x.send(1, task);
            }
            Due.is("send(1, " + task + ")", x.send(1, task), -3);
            Due.is("ACTS", x.about(11), task);
        }
        Due.is("what another has is fine", x.send(0, 4), 0);
    }

    private static Strawless withBricks(int sound, int hollow) {
        Strawless x = Due.of("B0H10F09F09");
        for (int n = 0; n < sound; n++) {
            x.send(0, x.field(0, 1) > 0 ? 2 : 3);
            x.day();
        }
        x.send(0, 1);
        Due.days(x, sound + hollow);
        storeIs("made ready", x, 0, sound, hollow);
        return x;
    }

    private static void turnOneToNine() {
        Due.promise(11, "BAD: n (1 .. 9)");
        for (int n = 1; n <= 9; n++) {
            Strawless x = withBricks(4, 5);
            Due.is("turn(" + n + ")", x.turn(n), n);
            Due.is("turned", x.about(6), n);
        }
        Strawless many = withBricks(9, 11);
        for (int n : new int[] {0, -1, 10, 11, -9, Integer.MIN_VALUE, Integer.MAX_VALUE}) {
            Due.is("turn(" + n + ") of 20", many.turn(n), -2);
            Due.is("turn(" + n + ") of none, BAD ahead of LATE", new Strawless().turn(n), -2);
        }
        Due.is("turned", many.about(6), 0);
        Due.promise(11, "n more bricks are turned, also more than 9 in all");
        Due.is("turn(9)", many.turn(9), 9);
        Due.is("turn(9)", many.turn(9), 18);
        Due.is("turn(3)", many.turn(3), -3);
        Due.is("turn(2)", many.turn(2), 20);
        Due.is("turn(1)", many.turn(1), -3);
        Due.is("turn(10), BAD ahead of LATE", many.turn(10), -2);
    }

    private static void turnWhatIsInStore() {
        Due.promise(11, "LATE: they would be more than are in store");
        for (int n = 1; n <= 9; n++) {
            Due.is("turn(" + n + ") of none", new Strawless().turn(n), -3);
        }
        int[][] stores = {{1, 0}, {0, 1}, {3, 0}, {0, 3}, {2, 3}, {4, 4}};
        for (int[] store : stores) {
            int all = store[0] + store[1];
            Strawless x = withBricks(store[0], store[1]);
            Due.is("turn(" + (all + 1) + ") of " + all, x.turn(all + 1), -3);
            Due.is("turned", x.about(6), 0);
            Due.is("turn(" + all + ") of " + all, x.turn(all), all);
            Due.is("turn(1) more", x.turn(1), -3);
            Due.is("turned", x.about(6), all);
            storeIs("turned ones stay in store", x, 0, store[0], store[1]);
        }
        Strawless x = withBricks(2, 3);
        x.lay(1);
        Due.is("turn(4), 2 of 5 are laid", x.turn(4), -3);
        Due.is("turn(3), 2 of 5 are laid", x.turn(3), 3);
    }

    private static void layOfTwo() {
        Due.promise(12, "BAD: sound (0, 1)");
        Strawless x = withBricks(4, 4);
        for (int sound : new int[] {-1, 2, 256, Integer.MIN_VALUE, Integer.MAX_VALUE}) {
            Due.is("lay(" + sound + ")", x.lay(sound), -2);
            Due.is("lay(" + sound + ") of none, BAD ahead of LATE", new Strawless().lay(sound), -2);
        }
        Due.promise(12, "LATE: there are no 2 such bricks");
        for (int n = 0; n <= 4; n++) {
            Strawless hollow = withBricks(5, n);
            Due.is("lay(0) of " + n, hollow.lay(0), n < 2 ? -3 : 1);
            storeIs("lay(0) of " + n, hollow, 0, 5, n < 2 ? n : n - 2);
            Strawless sound = withBricks(n, 5);
            Due.is("lay(1) of " + n, sound.lay(1), n < 2 ? -3 : 1);
            storeIs("lay(1) of " + n, sound, 0, n < 2 ? n : n - 2, 5);
        }
        Strawless one = withBricks(1, 1);
        Due.is("lay(0), one of each", one.lay(0), -3);
        Due.is("lay(1), one of each", one.lay(1), -3);
        Due.is("how high", one.about(7), 0);
    }

    private static void layEightHigh() {
        Due.promise(12, "FULL: it is 8 high");
        Strawless x = withBricks(9, 10);
        for (int n = 1; n <= 8; n++) {
            Due.is("lay", x.lay(n % 2), n);
        }
        storeIs("8 high", x, 0, 1, 2);
        Due.is("lay(0)", x.lay(0), -4);
        Due.promise(12, "FULL is told ahead of LATE, BAD ahead of FULL");
        Due.is("lay(1)", x.lay(1), -4);
        Due.is("lay(2)", x.lay(2), -2);
        Due.is("lay(-1)", x.lay(-1), -2);
        storeIs("refused", x, 0, 1, 2);
        Due.promise(12, "there is room again behind RAIN");
        Due.is("rain()", x.rain(), 7);
        Due.is("lay(1), LATE", x.lay(1), -3);
        Due.is("lay(0)", x.lay(0), 8);
        Due.is("lay(0)", x.lay(0), -4);
    }

    private static void layOnTop() {
        Due.promise(12, "a course comes on top of the WALL");
        for (int bits = 0; bits < 256; bits += 5) {
            Strawless x = withBricks(16, 16);
            for (int course = 0; course < 8; course++) {
                Due.is("lay", x.lay(bits >> course & 1), course + 1);
                Due.is("SOUND courses", x.about(8), bits & (2 << course) - 1);
            }
        }
    }

    private static void rainOnEveryWall() {
        Due.promise(13, "the lowest HOLLOW course of the WALL is gone (if there is one), what is above it comes down by one");
        for (int high = 0; high <= 8; high++) {
            for (int bits = 0; bits < 1 << high; bits++) {
                String courses = Due.coursesOf(high, bits);
                String behind = courses.replaceFirst("H", "");
                Strawless x = Due.wall(courses);
                Due.is("rain() on " + courses, x.rain(), behind.length());
                Due.is("how high " + courses, x.about(7), behind.length());
                Due.is("SOUND of " + courses, x.about(8), Due.bitsOf(behind));
            }
        }
    }

    private static void rainOnNothing() {
        Due.promise(13, "an ACT also where nothing is gone");
        Strawless none = new Strawless();
        Due.is("rain()", none.rain(), 0);
        Due.is("ACTS", none.about(11), 1);
        Strawless sound = withBricks(3, 3);
        sound.lay(1);
        int acts = sound.about(11);
        Due.is("rain()", sound.rain(), 1);
        Due.is("rain()", sound.rain(), 1);
        Due.is("ACTS", sound.about(11), Math.min(14, acts + 2));
        storeIs("RAIN leaves the store", sound, 0, 1, 3);
        Due.is("no DAY", sound.about(10), 9);
    }

    private static void undoWhenThereIsNone() {
        Due.promise(14, "LATE: there is none");
        Due.is("undo(), new", new Strawless().undo(), -3);
        Strawless x = Due.of("B0H10");
        Due.is("undo(), behind pit", x.undo(), -3);
        x.send(0, 1);
        Due.is("undo() of one", x.undo(), 0);
        Due.is("undo(), all are undone", x.undo(), -3);
        Due.is("undo(), still", x.undo(), -3);
        x.send(5, 1);
        x.send(0, 9);
        x.send(0, 0);
        x.turn(1);
        x.lay(0);
        Due.is("undo(), all were refused", x.undo(), -3);
        x.day();
        x.keep(0);
        x.again(0);
        Due.is("undo(), behind again", x.undo(), -3);
        x.day();
        x.pit();
        Due.is("undo(), behind pit", x.undo(), -3);
    }

    private static void undone(String which, Consumer<Strawless> act) {
        Strawless x = Due.sent("B9H31H42F09F19", 1, 2);
        Due.days(x, 3);
        x.lay(1);
        x.lay(0);
        x.turn(1);
        String before = Due.print(x);
        int acts = x.about(11);
        act.accept(x);
        Due.is(which + " is an ACT", x.about(11), acts + 1);
        Due.is("undo() of " + which, x.undo(), acts);
        Due.same("undo() of " + which, Due.print(x), before);
    }

    private static void undoOfEachAct() {
        Due.promise(14, "The last ACT is undone");
        undone("DAY", x -> x.day());
        undone("SENT", x -> x.send(0, 3));
        undone("SENT", x -> x.send(1, 0));
        undone("TURNED", x -> x.turn(2));
        undone("LAID", x -> x.lay(0));
        undone("LAID", x -> x.lay(1));
        undone("RAIN", x -> x.rain());
    }

    private static void undoOfFourteen() {
        for (int acts = 1; acts <= 45; acts++) {
            Due.promise(14, "14 at most; when it is full, the first one is forgotten, of " + acts);
            Strawless x = Due.of("B1");
            Due.days(x, acts);
            int left = acts < 14 ? acts : 14;
            Due.is("ACTS", x.about(11), left);
            for (int n = 1; n <= left; n++) {
                Due.is("undo()", x.undo(), left - n);
                Due.is("THE DAY", x.about(10), acts - n);
                Due.is("BLOWS", x.about(9), acts - n);
            }
            Due.is("undo(), none", x.undo(), -3);
            Due.is("THE DAY", x.about(10), acts - left);
        }
    }

    private static void undoBehindAFullRow() {
        Due.promise(14, "the row has room again for what was undone");
        Strawless x = Due.of("B1");
        Due.days(x, 20);
        for (int n = 0; n < 5; n++) {
            x.undo();
        }
        Due.is("ACTS", x.about(11), 9);
        x.rain();
        Due.days(x, 4);
        Due.is("ACTS", x.about(11), 14);
        x.day();
        Due.is("ACTS", x.about(11), 14);
        for (int n = 0; n < 13; n++) {
            x.undo();
        }
        Due.is("THE DAY", x.about(10), 8);
        Due.is("undo()", x.undo(), 0);
        Due.is("THE DAY", x.about(10), 7);
        Due.is("undo(), none", x.undo(), -3);
    }

    private static void undoOnlyActs() {
        Due.promise(14, "ACTS (DAYS, SENT, TURNED, LAID, RAIN): nothing else is one");
        Strawless x = Due.sent("B2H30H20F09", 1, 2);
        Due.is("ACTS", x.about(11), 2);
        x.keep(0);
        x.write('H');
        x.wipe();
        x.write('B');
        x.fault();
        x.see(1, 1, 1);
        x.unsee();
        x.see(1, 2, 1);
        x.seed(5);
        x.years(3);
        x.makes(12, 0);
        x.best(0);
        x.lasts();
        long seed = x.seed(6);
        Due.is("ACTS", x.about(11), 2);
        Due.is("undo()", x.undo(), 1);
        Due.is("TASK", x.hand(1, 2), 0);
        Due.is("TASK", x.hand(0, 2), 1);
        Due.promise(14, "what is no ACT is not undone");
        Due.is("bytes", x.about(13), 1);
        Due.is("SEEN", x.about(12), 1);
        Due.is("the seed", x.seed(seed), 6);
        Due.is("again(0)", x.again(0), 0);
        Due.is("TASK", x.hand(1, 2), 2);
    }
}
