/** The edges that promises 1 to 8 name: a new object, write, wipe, fault, pit, about, hand, field. */
public final class EdgesPitTest {
    private static final String LONGEST = "B9H10H21H32H43H41F09F19F39";

    public static void main(String[] args) {
        newIsEmpty();
        writeTakesBytes();
        writeTakesForty();
        wipeFromEmptyToFull();
        faultOfEachPlace();
        faultOfOneTooMany();
        faultWhateverComesBehind();
        faultLengthSetAside();
        faultNotAtItsEnd();
        pitFromLeastToMost();
        pitIsLate();
        pitNumbersEachKindForItself();
        pitMakesAllAnew();
        pitStaysUntilTheNext();
        aboutFromLeastToMost();
        aboutKnowsFourteen();
        handFromFirstToLast();
        handMoulds();
        fieldFromFirstToLast();
        fieldStraws();
        Due.endOfPromises(1, 8);
    }

    private static void newIsEmpty() {
        Due.promise(1, "Nobody, no field; at first COUNT is 0, nothing is SEEN, THE SEED is 0");
        Strawless x = new Strawless();
        for (int what = 0; what <= 13; what++) {
            Due.is("about(" + what + ")", x.about(what), 0);
        }
        Due.is("hand(0, 0)", x.hand(0, 0), -1);
        Due.is("field(0, 0)", x.field(0, 0), -1);
        Due.is("send(0, 1)", x.send(0, 1), -1);
        Due.is("share(0, true)", x.share(0, true), -1);
        Due.is("fault()", x.fault(), 0);
        Due.is("pit()", x.pit(), -3);
        Due.is("undo()", x.undo(), -3);
        Due.is("again(0)", x.again(0), -3);
        Due.is("again(1)", x.again(1), -3);
        Due.is("makes(0, 0)", x.makes(0, 0), 0);
        Due.is("best(0)", x.best(0), 0);
        Due.is("least()", x.least(), 0);
        Due.is("courses(8, 0)", x.courses(8, 0), 256);
        Due.is("chance(1, 1, 0, true)", x.chance(1, 1, 0, true), 0);
        Due.is("seed(0)", x.seed(0), 0);
        Due.is("day()", x.day(), 0);
        Due.is("no BLOWS", x.about(9), 0);
        Due.is("one DAY", x.about(10), 1);
    }

    private static void writeTakesBytes() {
        Due.promise(2, "A byte (0 .. 255); BAD");
        for (int letter = 0; letter <= 255; letter++) {
            Due.is("write(" + letter + ")", new Strawless().write(letter), 1);
        }
        Strawless x = new Strawless();
        for (int letter : new int[] {-1, 256, -256, 'B' + 256, 'B' - 256, 'B' + 65536, Integer.MIN_VALUE, Integer.MAX_VALUE}) {
            Due.is("write(" + letter + ")", x.write(letter), -2);
        }
        Due.is("bytes", x.about(13), 0);
        Due.promise(2, "comes behind THE TEXT");
        Due.tell(x, "B");
        Due.is("write('7')", x.write('7'), 2);
        Due.is("pit()", x.pit(), 0);
        Due.is("COUNT", x.about(2), 7);
    }

    private static void writeTakesForty() {
        Due.promise(2, "how long it is; FULL: there are 40");
        Strawless x = new Strawless();
        for (int n = 1; n <= 40; n++) {
            Due.is("write", x.write(n), n);
        }
        Due.is("write the 41st", x.write(0), -4);
        Due.is("write the 41st again", x.write('B'), -4);
        Due.is("bytes", x.about(13), 40);
        Due.promise(2, "BAD is told ahead of FULL");
        Due.is("write(256)", x.write(256), -2);
        Due.is("write(-1)", x.write(-1), -2);
        Due.promise(2, "behind a wipe there is room again");
        x.wipe();
        for (int n = 1; n <= 40; n++) {
            Due.is("write", x.write('B'), n);
        }
        Due.is("write the 41st", x.write('B'), -4);
    }

    private static void wipeFromEmptyToFull() {
        Due.promise(3, "THE TEXT is empty: how long it was");
        for (int length = 0; length <= 40; length++) {
            Strawless x = new Strawless();
            for (int n = 0; n < length; n++) {
                x.write('B');
            }
            Due.is("wipe() of " + length, x.wipe(), length);
            Due.is("bytes", x.about(13), 0);
            Due.is("wipe() of none", x.wipe(), 0);
            Due.is("fault()", x.fault(), 0);
            Due.is("write", x.write('B'), 1);
        }
        Due.promise(3, "a full one that was refused more is 40 long");
        Strawless full = new Strawless();
        for (int n = 0; n < 50; n++) {
            full.write('B');
        }
        Due.is("wipe()", full.wipe(), 40);
        Due.promise(3, "THE PIT stays");
        Strawless x = Due.of(LONGEST);
        Due.is("wipe()", x.wipe(), 26);
        Due.is("HANDS", x.about(0), 5);
        Due.is("FIELDS", x.about(1), 3);
        Due.is("COUNT", x.about(2), 9);
    }

    /** Each of the 256 bytes behind a beginning: those that fit, and all others, which are the first fault. */
    private static void nextIs(String beginning, String fit, boolean atItsEnd) {
        for (int letter = 0; letter <= 255; letter++) {
            Strawless x = new Strawless();
            Due.tell(x, beginning);
            x.write(letter);
            int length = beginning.length() + 1;
            int due = fit.indexOf(letter) < 0 ? length - 1 : atItsEnd ? -9 : length;
            Due.is("fault() of " + beginning + " and byte " + letter, x.fault(), due);
        }
    }

    private static void faultOfEachPlace() {
        Due.promise(4, "B");
        nextIs("", "B", false);
        Due.promise(4, "COUNT (0 .. 9)");
        nextIs("B", "0123456789", true);
        Due.promise(4, "PARTS, none or more");
        nextIs("B0", "HF", false);
        nextIs("B0H10", "HF", false);
        nextIs("B0F00", "HF", false);
        Due.promise(4, "strength s (1 .. 4)");
        nextIs("B0H", "1234", false);
        nextIs("B9F09H", "1234", false);
        Due.promise(4, "KIND k (0 .. 3)");
        nextIs("B0H1", "0123", true);
        nextIs("B0H4", "0123", true);
        Due.promise(4, "d (0 .. 3) far");
        nextIs("B0F", "0123", false);
        nextIs("B9H43F", "0123", false);
        Due.promise(4, "n (0 .. 9) STRAWS");
        nextIs("B0F0", "0123456789", true);
        nextIs("B0F3", "0123456789", true);
    }

    private static void faultOfOneTooMany() {
        Due.promise(4, "HANDS, 5 at most");
        nextIs("B0H10H10H10H10", "HF", false);
        nextIs("B0H10H10H10H10H10", "F", false);
        nextIs("B0F00H10H10F00H10H10H10", "F", false);
        Due.promise(4, "FIELDS, 3 at most");
        nextIs("B0F00F00", "HF", false);
        nextIs("B0F00F00F00", "H", false);
        nextIs("B0F00H10F00H10F00", "H", false);
        Due.promise(4, "5 HANDS and 3 FIELDS at most");
        nextIs(LONGEST, "", false);
        nextIs("B0F00F00F00H10H10H10H10H10", "", false);
    }

    private static void faultIs(String text, int due) {
        Strawless x = new Strawless();
        Due.tell(x, text);
        Due.is("fault() of " + text, x.fault(), due);
        Due.is("fault() of " + text + " again", x.fault(), due);
    }

    private static void faultWhateverComesBehind() {
        Due.promise(4, "the place of the first byte by which THE TEXT can be no PIT, whatever came behind it");
        faultIs("A0", 0);
        faultIs("AB0H10", 0);
        faultIs("BX", 1);
        faultIs("BXYZ", 1);
        faultIs("B0XH10", 2);
        faultIs("B0H0", 3);
        faultIs("B0H00H10", 3);
        faultIs("B0H14", 4);
        faultIs("B0H14X", 4);
        faultIs("B0H10 ", 5);
        faultIs("B0F4", 3);
        faultIs("B0F0A", 4);
        faultIs("B0F0A0", 4);
        faultIs("B0H10H10H10H10H10H10", 17);
        faultIs("B0H10H10H10H10H10F00H10F00", 20);
        faultIs("B0F00F00F00F00H10", 11);
        faultIs("BB0", 1);
        faultIs("B0B0", 2);
    }

    private static void faultLengthSetAside() {
        Due.promise(4, "its length set aside");
        StringBuilder full = new StringBuilder(LONGEST);
        while (full.length() < 40) {
            faultIs(full.append('H').toString(), 26);
        }
        faultIs("B".repeat(40), 1);
        faultIs("A".repeat(40), 0);
    }

    private static void faultNotAtItsEnd() {
        Due.promise(4, "its length, if it is only not at its end; NONE: none");
        for (int length = 0; length <= LONGEST.length(); length++) {
            boolean whole = length >= 2 && length % 3 == 2;
            faultIs(LONGEST.substring(0, length), whole ? -9 : length);
        }
    }

    private static void pitIs(String text, int due) {
        Strawless x = new Strawless();
        Due.tell(x, text);
        Due.is("pit() of " + text, x.pit(), due);
        Due.is("HANDS of " + text, x.about(0), due / 10);
        Due.is("FIELDS of " + text, x.about(1), due % 10);
        Due.is("bytes of " + text, x.about(13), text.length());
    }

    private static void pitFromLeastToMost() {
        Due.promise(5, "10 times HANDS, and FIELDS");
        for (int hands = 0; hands <= 5; hands++) {
            for (int fields = 0; fields <= 3; fields++) {
                pitIs("B0" + "H10".repeat(hands) + "F00".repeat(fields), 10 * hands + fields);
                pitIs("B9" + "F39".repeat(fields) + "H43".repeat(hands), 10 * hands + fields);
            }
        }
        Due.promise(5, "COUNT (0 .. 9)");
        for (int count = 0; count <= 9; count++) {
            Due.is("COUNT", Due.of("B" + count).about(2), count);
        }
    }

    private static void pitIsLate() {
        Due.promise(5, "LATE: a FAULT");
        String[] faulty = {"", "B", "A0", "B0H", "B0H1", "B0H10F", "B0H10F0", "B0H50", "B0H04", "B0F40", "B0X", LONGEST + "H", LONGEST + "H10",
            "B0" + "H10".repeat(6), "B0" + "F00".repeat(4), "B".repeat(40)};
        for (String text : faulty) {
            Strawless x = Due.of("B3H20F14");
            Due.tell(x, text);
            Due.is("pit() of " + text, x.pit(), -3);
            Due.is("HANDS", x.about(0), 1);
            Due.is("FIELDS", x.about(1), 1);
            Due.is("COUNT", x.about(2), 3);
            Due.is("strength", x.hand(0, 0), 2);
            Due.is("STRAWS", x.field(0, 1), 4);
        }
    }

    private static void pitNumbersEachKindForItself() {
        Due.promise(5, "PARTS are numbered as they are told, each kind for itself");
        Strawless x = Due.of("B0F01H10H20F12H30F23H41H42");
        for (int hand = 0; hand < 5; hand++) {
            Due.is("strength of " + hand, x.hand(hand, 0), hand < 3 ? hand + 1 : 4);
            Due.is("KIND of " + hand, x.hand(hand, 1), hand < 3 ? 0 : hand - 2);
        }
        for (int field = 0; field < 3; field++) {
            Due.is("how far " + field, x.field(field, 0), field);
            Due.is("STRAWS of " + field, x.field(field, 1), field + 1);
        }
    }

    /** Nothing of it is as when it was made. */
    private static Strawless wholly() {
        Strawless x = Due.sent("B9H41H42F09F09", 1, 2);
        Due.days(x, 2);
        x.lay(1);
        x.lay(0);
        x.turn(2);
        x.send(0, 3);
        x.day();
        x.turn(1);
        x.keep(0);
        x.keep(1);
        x.see(2, 1, 0);
        x.seed(-5);
        return x;
    }

    private static void pitMakesAllAnew() {
        Due.promise(5, "made anew: all HANDS REST, no STRAW, no brick, none turned, no course, THE DAY 0, no BLOWS; no ACTS");
        Strawless x = wholly();
        for (int what = 0; what <= 13; what++) {
            Due.is("about(" + what + ") was not 0", x.about(what) == 0 ? 1 : 0, 0);
        }
        Due.is("pit()", x.pit(), 22);
        for (int what = 3; what <= 11; what++) {
            Due.is("about(" + what + ")", x.about(what), 0);
        }
        Due.is("TASK 0", x.hand(0, 2), 0);
        Due.is("TASK 1", x.hand(1, 2), 0);
        Due.is("STRAWS 0", x.field(0, 1), 9);
        Due.is("STRAWS 1", x.field(1, 1), 9);
        Due.is("undo()", x.undo(), -3);
        Due.promise(5, "what was kept is gone");
        Due.is("again(0)", x.again(0), -3);
        Due.is("again(1)", x.again(1), -3);
        Due.promise(5, "SEEN, THE SEED stay");
        Due.is("SEEN", x.about(12), 1);
        Due.is("courses(3, 0)", x.courses(3, 0), wholly().courses(3, 0));
        Due.is("seed(0)", x.seed(0), -5);
        Due.promise(5, "a HAND or FIELD that the new one does not have is gone");
        x = wholly();
        Due.tell(x, "B1H30");
        Due.is("pit()", x.pit(), 10);
        Due.is("hand(1, 0)", x.hand(1, 0), -1);
        Due.is("field(0, 0)", x.field(0, 0), -1);
        Due.is("send(0, 2)", x.send(0, 2), -2);
        Due.is("day()", x.day(), 0);
        Due.tell(x, "B1");
        Due.is("pit()", x.pit(), 0);
        Due.is("hand(0, 0)", x.hand(0, 0), -1);
        Due.is("makes(1, 0)", x.makes(1, 0), -2);
    }

    private static void pitStaysUntilTheNext() {
        Due.promise(5, "THE TEXT is THE PIT only when it is made");
        Strawless x = Due.of("B3H20F14");
        Due.tell(x, LONGEST);
        Due.is("HANDS", x.about(0), 1);
        Due.is("COUNT", x.about(2), 3);
        Due.is("makes(2, 0)", x.makes(2, 0), 0);
        Due.is("pit()", x.pit(), 53);
        Due.is("HANDS", x.about(0), 5);
        Due.is("pit() a second time", x.pit(), 53);
    }

    private static void aboutFromLeastToMost() {
        Due.promise(6, "the most of each");
        Strawless x = Due.sent("B9H41H41H41H41H41F09F09F09", 2, 2, 3, 3, 4);
        Due.is("HANDS", x.about(0), 5);
        Due.is("FIELDS", x.about(1), 3);
        Due.is("COUNT", x.about(2), 9);
        Due.days(x, 3);
        Due.is("STRAW", x.about(3), 8 + 8 + 1 + 1 + 4 + 4 + 1);
        Due.is("BLOWS", x.about(9), 27);
        Due.is("THE DAY", x.about(10), 3);
        for (int hand = 0; hand < 5; hand++) {
            x.send(hand, 1);
        }
        Due.days(x, 5);
        Due.is("STRAW", x.about(3), 0);
        Due.is("SOUND bricks", x.about(4), 27);
        Due.is("HOLLOW bricks", x.about(5), 18);
        for (int n = 1; n <= 5; n++) {
            x.turn(9);
            Due.is("turned", x.about(6), 9 * n);
        }
        for (int n = 1; n <= 8; n++) {
            x.lay(n == 1 ? 0 : 1);
            Due.is("how high", x.about(7), n);
        }
        Due.is("SOUND courses", x.about(8), 254);
        Due.is("ACTS", x.about(11), 14);
        for (int n = 1; n <= 6; n++) {
            x.see(0, 0, 0);
            Due.is("SEEN", x.about(12), n);
        }
        for (int n = 27; n <= 40; n++) {
            x.write(0);
            Due.is("bytes", x.about(13), n);
        }
        Due.promise(6, "SOUND courses as bits, the lowest 0");
        Due.is("HHHHHHHH", Due.wall("HHHHHHHH").about(8), 0);
        Due.is("SHHHHHHH", Due.wall("SHHHHHHH").about(8), 1);
        Due.is("HHHHHHHS", Due.wall("HHHHHHHS").about(8), 128);
        Due.is("SSSSSSSS", Due.wall("SSSSSSSS").about(8), 255);
    }

    private static void aboutKnowsFourteen() {
        Due.promise(6, "what is 0 .. 13; BAD");
        Strawless x = wholly();
        for (int what : new int[] {-1, 14, -14, 256, Integer.MIN_VALUE, Integer.MAX_VALUE}) {
            Due.is("about(" + what + ")", x.about(what), -2);
        }
    }

    private static void handFromFirstToLast() {
        for (int hands = 0; hands <= 5; hands++) {
            Due.promise(7, "UNKNOWN: there is no such HAND, of " + hands);
            Strawless x = Due.of("B0" + "H20".repeat(hands));
            for (int hand = 0; hand < hands; hand++) {
                Due.is("hand(" + hand + ", 0)", x.hand(hand, 0), 2);
            }
            for (int hand : new int[] {-1, hands, hands + 1, 5, Integer.MIN_VALUE, Integer.MAX_VALUE}) {
                Due.is("hand(" + hand + ", 0)", x.hand(hand, 0), -1);
                Due.is("hand(" + hand + ", 3)", x.hand(hand, 3), -1);
                Due.is("hand(" + hand + ", 4), UNKNOWN ahead of BAD", x.hand(hand, 4), -1);
            }
        }
        Due.promise(7, "what is 0 .. 3; BAD");
        Strawless x = Due.of("B0" + "H20".repeat(5) + "F00".repeat(3));
        for (int what : new int[] {-1, 4, Integer.MIN_VALUE, Integer.MAX_VALUE}) {
            Due.is("hand(0, " + what + ")", x.hand(0, what), -2);
            Due.is("hand(4, " + what + ")", x.hand(4, what), -2);
        }
        Due.promise(7, "TASK, from 0 to 2 and the last FIELD");
        for (int task : new int[] {4, 3, 2, 1, 0}) {
            x.send(4, task);
            Due.is("hand(4, 2)", x.hand(4, 2), task);
            Due.is("hand(3, 2)", x.hand(3, 2), 0);
        }
    }

    private static void handMoulds() {
        Due.promise(7, "it MOULDS s bricks (STRONG 2 more, SLOW 1 less, CHILD none)");
        int[][] moulds = {{1, 2, 3, 4}, {3, 4, 5, 6}, {0, 1, 2, 3}, {0, 0, 0, 0}};
        for (int kind = 0; kind <= 3; kind++) {
            for (int strength = 1; strength <= 4; strength++) {
                Strawless x = Due.of("B0H" + strength + kind);
                Due.is("strength", x.hand(0, 0), strength);
                Due.is("KIND", x.hand(0, 1), kind);
                Due.is("MOULDS, strength " + strength + ", KIND " + kind, x.hand(0, 3), moulds[kind][strength - 1]);
                x.send(0, 1);
                Due.is("MOULDS at work", x.hand(0, 3), moulds[kind][strength - 1]);
            }
        }
    }

    private static void fieldFromFirstToLast() {
        for (int fields = 0; fields <= 3; fields++) {
            Due.promise(8, "UNKNOWN: there is no such FIELD, of " + fields);
            Strawless x = Due.of("B0" + "F27".repeat(fields));
            for (int field = 0; field < fields; field++) {
                Due.is("field(" + field + ", 0)", x.field(field, 0), 2);
                Due.is("field(" + field + ", 1)", x.field(field, 1), 7);
            }
            for (int field : new int[] {-1, fields, fields + 1, 3, Integer.MIN_VALUE, Integer.MAX_VALUE}) {
                Due.is("field(" + field + ", 0)", x.field(field, 0), -1);
                Due.is("field(" + field + ", 1)", x.field(field, 1), -1);
                Due.is("field(" + field + ", 2), UNKNOWN ahead of BAD", x.field(field, 2), -1);
            }
        }
        Due.promise(8, "what is 0, 1; BAD");
        Strawless x = Due.of("B0F27F27F27");
        for (int what : new int[] {-1, 2, Integer.MIN_VALUE, Integer.MAX_VALUE}) {
            Due.is("field(0, " + what + ")", x.field(0, what), -2);
            Due.is("field(2, " + what + ")", x.field(2, what), -2);
        }
    }

    private static void fieldStraws() {
        Due.promise(8, "d (0 .. 3) far, with n (0 .. 9) STRAWS");
        for (int far = 0; far <= 3; far++) {
            for (int straws = 0; straws <= 9; straws++) {
                Strawless x = Due.of("B0F" + far + straws);
                Due.is("how far", x.field(0, 0), far);
                Due.is("STRAWS", x.field(0, 1), straws);
            }
        }
        Due.promise(8, "its STRAWS, down to none");
        Strawless x = Due.sent("B0H40F09F07", 2);
        for (int left : new int[] {5, 1, 0, 0}) {
            x.day();
            Due.is("field(0, 1)", x.field(0, 1), left);
            Due.is("field(0, 0)", x.field(0, 0), 0);
            Due.is("field(1, 1)", x.field(1, 1), 7);
        }
    }
}
