/** The edges that promises 15 to 21 name: makes, best, least, ask, lasts, spare, share. */
public final class EdgesPlansTest {
    private static final int[] FAR_OFF = {-1, Integer.MIN_VALUE, Integer.MAX_VALUE};

    public static void main(String[] args) {
        makesOfNobody();
        makesByFigures();
        makesWhat();
        makesLikeADay();
        makesFromNow();
        bestOrNone();
        bestMostSound();
        bestMoreRest();
        bestLeastNumber();
        bestWhat();
        leastFromNoneToAll();
        askAllSound();
        askNineAtMost();
        lastsFromNoneToNine();
        lastsByCount();
        lastsFromNow();
        spareOfEachHeight();
        spareOneCourse();
        spareWhatIsThere();
        spareRefuses();
        shareByHands();
        shareInLeastTerms();
        shareInEachOrder();
        shareNineAtMost();
        Due.endOfPromises(15, 21);
    }

    private static void makesAre(Strawless x, int plan, int all, int sound) {
        Due.is("makes(" + plan + ", 0)", x.makes(plan, 0), all);
        Due.is("makes(" + plan + ", 1)", x.makes(plan, 1), sound);
    }

    private static void makesOfNobody() {
        Due.promise(15, "figures of all HANDS (0: there are none)");
        for (String text : new String[] {"B0", "B9F09F09F09"}) {
            Strawless x = Due.of(text);
            makesAre(x, 0, 0, 0);
            for (int plan : new int[] {1, 2, 10, -1, Integer.MIN_VALUE, Integer.MAX_VALUE}) {
                makesAre(x, plan, -2, -2);
            }
        }
    }

    private static void makesByFigures() {
        int[] ones = {0, 1, 11, 111, 1111, 11111};
        int[] tens = {1, 10, 100, 1000, 10000, 100000};
        for (int hands = 1; hands <= 5; hands++) {
            for (int fields = 0; fields <= 3; fields++) {
                Due.promise(15, "BAD: plan (figures of all HANDS, TASKS that there are), " + hands + " HANDS, " + fields + " FIELDS");
                Strawless x = Due.of("B0" + "H10".repeat(hands) + "F00".repeat(fields));
                makesAre(x, 0, 0, 0);
                makesAre(x, ones[hands], hands, 0);
                makesAre(x, ones[hands] * (1 + fields), fields == 0 ? hands : 0, 0);
                for (int place = 0; place < hands; place++) {
                    makesAre(x, tens[place] * (1 + fields), fields == 0 ? 1 : 0, 0);
                    makesAre(x, tens[place] * (2 + fields), -2, -2);
                    makesAre(x, tens[place] * 9, -2, -2);
                }
                makesAre(x, tens[hands], -2, -2);
                makesAre(x, tens[hands] + 1, -2, -2);
                makesAre(x, -1, -2, -2);
                makesAre(x, -tens[hands - 1], -2, -2);
                makesAre(x, 1000000000, -2, -2);
                makesAre(x, Integer.MIN_VALUE, -2, -2);
                makesAre(x, Integer.MAX_VALUE, -2, -2);
            }
        }
        Due.promise(15, "HAND 0 first");
        Strawless x = Due.of("B0H10H20H30H40H41");
        makesAre(x, 10000, 1, 0);
        makesAre(x, 1000, 2, 0);
        makesAre(x, 100, 3, 0);
        makesAre(x, 10, 4, 0);
        makesAre(x, 1, 6, 0);
    }

    private static void makesWhat() {
        Due.promise(15, "in all (what = 0), SOUND (1). BAD: what");
        Strawless x = Due.of("B0H30H20F09");
        makesAre(x, 12, 3, 2);
        for (int what : new int[] {-1, 2, Integer.MIN_VALUE, Integer.MAX_VALUE}) {
            Due.is("makes(12, " + what + ")", x.makes(12, what), -2);
            Due.is("makes(99, " + what + ")", x.makes(99, what), -2);
        }
    }

    private static void makesLikeADay() {
        Due.promise(15, "what a DAY moulds with these TASKS (9 at most)");
        Strawless x = Due.of("B0H41H20H30H40F09");
        makesAre(x, 1100, 8, 0);
        makesAre(x, 1010, 9, 0);
        makesAre(x, 1001, 9, 0);
        makesAre(x, 1111, 9, 0);
        makesAre(x, 1012, 9, 4);
        makesAre(x, 1122, 8, 7);
        makesAre(x, 122, 2, 2);
        makesAre(x, 2222, 0, 0);
        Due.promise(15, "no more than there are STRAWS in the FIELD");
        Strawless bare = Due.of("B0H41H20H20F03");
        makesAre(bare, 102, 6, 2);
        makesAre(bare, 122, 6, 3);
    }

    private static void makesFromNow() {
        Due.promise(15, "the STRAW that is there is used, what is turned is not made");
        Strawless x = Due.sent("B0H40H30F05", 2);
        x.day();
        makesAre(x, 1, 3, 3);
        makesAre(x, 11, 7, 4);
        makesAre(x, 21, 3, 3);
        makesAre(x, 12, 4, 4);
        x.send(1, 1);
        x.day();
        x.turn(3);
        makesAre(x, 0, 0, 0);
        makesAre(x, 11, 7, 2);
        Due.promise(15, "nothing is changed");
        Due.is("STRAW", x.about(3), 2);
        Due.is("TASK", x.hand(0, 2), 2);
        Due.is("ACTS", x.about(11), 5);
    }

    private static void bestIs(String text, int plan, int sound) {
        Strawless x = Due.of(text);
        Due.is("best(0) of " + text, x.best(0), plan);
        Due.is("best(1) of " + text, x.best(1), sound);
    }

    private static void bestOrNone() {
        Due.promise(16, "of all PLANS that MAKE COUNT or more; NONE: none does");
        bestIs("B0", 0, 0);
        bestIs("B1", -9, -9);
        bestIs("B9F09", -9, -9);
        bestIs("B0H40", 0, 0);
        bestIs("B3H40", 1, 0);
        bestIs("B4H40", 1, 0);
        bestIs("B5H40", -9, -9);
        bestIs("B1H43F09", -9, -9);
        bestIs("B1H12F09", -9, -9);
        bestIs("B9H41H30", 11, 0);
        bestIs("B9H41H20", -9, -9);
        bestIs("B9H41H41H41H41H41", 11, 0);
        bestIs("B5H10H10H10H10H10", 11111, 0);
        bestIs("B6H10H10H10H10H10", -9, -9);
    }

    private static void bestMostSound() {
        Due.promise(16, "that by which most are SOUND");
        bestIs("B0H40H30F09", 12, 3);
        bestIs("B4H40H30F09", 12, 3);
        bestIs("B5H40H30F09", 11, 0);
        bestIs("B0H40H40F04", 12, 4);
        bestIs("B0H40H40F00", 0, 0);
        bestIs("B0H41H40H40H10F09", 1221, 7);
        bestIs("B9H41H30H40F09", 112, 4);
    }

    private static void bestMoreRest() {
        Due.promise(16, "of like ones that in which more REST");
        // 2 SOUND ones: 122 would be less as a number, but in it only one RESTS
        bestIs("B2H20H20H10H10F02", 1200, 2);
        bestIs("B0H20H10H10F02", 122, 2);
        bestIs("B0H30H10H10H20F03", 1022, 3);
        bestIs("B0H30H10H10H40F03", 1002, 3);
        Strawless strawy = Due.sent("B0H30H30F09", 2);
        strawy.day();
        Due.is("best(0), the STRAW is there", strawy.best(0), 1);
        Due.is("best(1), the STRAW is there", strawy.best(1), 3);
    }

    private static void bestLeastNumber() {
        Due.promise(16, "then the least as a number");
        bestIs("B3H30H30", 1, 0);
        bestIs("B3H30H30H30H30H30", 1, 0);
        bestIs("B0H30H30F09", 12, 3);
        bestIs("B0H30H30F09F09F09", 12, 3);
        bestIs("B0H30H30F00F09F09", 13, 3);
        bestIs("B0H30H30F00F00F09", 14, 3);
        bestIs("B0H30H30H30F03", 12, 3);
        bestIs("B0H30H30H30H30H30F03", 12, 3);
        Due.promise(16, "the least as a number also behind other questions");
        Strawless x = Due.sent("B0H30H30H30F03F03", 2);
        for (int n = 0; n < 3; n++) {
            Due.is("best(0)", x.best(0), 12);
            x.makes(213, 0);
            Due.is("best(0) behind makes", x.best(0), 12);
            x.share(0, true);
        }
    }

    private static void bestWhat() {
        Due.promise(16, "the PLAN (what = 0), how many are SOUND (1). BAD, also where there is none");
        for (String text : new String[] {"B0", "B9", "B3H30"}) {
            Strawless x = Due.of(text);
            for (int what : new int[] {-1, 2, Integer.MIN_VALUE, Integer.MAX_VALUE}) {
                Due.is("best(" + what + ") of " + text, x.best(what), -2);
            }
        }
        Due.promise(16, "nothing is changed");
        Strawless x = Due.sent("B3H30H20F09", 2, 1);
        String before = Due.print(x);
        x.best(0);
        x.best(1);
        x.best(2);
        Due.same("best", Due.print(x), before);
    }

    private static void leastFromNoneToAll() {
        Due.promise(17, "the fewest HANDS that do not REST in a PLAN that MAKES COUNT or more; NONE");
        String[] texts = {"B0", "B0H10", "B0H10H10H10H10H10", "B1", "B1F09", "B1H43", "B1H12", "B1H10", "B2H10", "B4H40H10", "B5H40H10", "B6H40H10",
            "B9H41H30", "B9H41H20", "B9H10H41H20H30", "B4H10H10H10H10H10", "B5H10H10H10H10H10", "B6H10H10H10H10H10", "B9H41H41H41H41H41"};
        int[] due = {0, 0, 0, -9, -9, -9, -9, 1, -9, 1, 2, -9, 2, -9, 2, 4, 5, -9, 2};
        for (int n = 0; n < texts.length; n++) {
            Due.is("least() of " + texts[n], Due.of(texts[n]).least(), due[n]);
        }
        Due.promise(17, "what is turned is not made");
        Strawless x = Due.sent("B5H40", 1);
        x.day();
        x.turn(4);
        Due.is("least()", x.least(), -9);
    }

    private static void askAllSound() {
        Due.promise(18, "the most bricks that a PLAN MAKES that are all SOUND");
        String[] texts = {"B9", "B9F09", "B0H40", "B9H40H40", "B9H40H40F09", "B0H40H40F04", "B0H40H40F03", "B0H30H40F09", "B0H10H43F09",
            "B0H13H40F09", "B0H41H33H33F09", "B0H41H33H33F05", "B0H43H43F09", "B0H30H20H10F02", "B0H30H20H10F00"};
        int[] due = {0, 0, 0, 0, 4, 4, 0, 3, 1, 0, 6, 0, 0, 2, 0};
        for (int n = 0; n < texts.length; n++) {
            Due.is("ask() of " + texts[n], Due.of(texts[n]).ask(), due[n]);
        }
        Due.promise(18, "the STRAW that is there is used");
        Strawless x = Due.sent("B0H40H10F09", 2);
        Due.is("ask(), no STRAW", x.ask(), 1);
        x.day();
        Due.is("ask(), 4 STRAW for 4", x.ask(), 4);
        x.day();
        Due.is("ask(), 8 STRAW for 5", x.ask(), 5);
        Due.promise(18, "what an earlier call answered does not stay");
        x.send(0, 1);
        x.day();
        x.day();
        Due.is("ask(), no STRAW, 1 left in the FIELD", x.ask(), 1);
    }

    private static void askNineAtMost() {
        Due.promise(18, "9 at most, and no COUNT asks for more or less");
        for (int count = 0; count <= 9; count += 9) {
            Strawless x = Due.sent("B" + count + "H41H41H40F09F09", 2, 3, 2);
            Due.is("ask(), no STRAW", x.ask(), 6);
            Due.days(x, 3);
            Due.is("ask(), 18 STRAW", x.ask(), 9);
        }
    }

    private static void lastsIs(String text, int due, int... tasks) {
        Due.is("lasts() of " + text, Due.sent(text, tasks).lasts(), due);
    }

    private static void lastsFromNoneToNine() {
        Due.promise(19, "how many DAYS (9 at most) from now on, one behind the other");
        for (int straws = 0; straws <= 9; straws++) {
            lastsIs("B1H10H10F0" + straws, straws, 2, 1);
        }
        lastsIs("B1H20H10F09F01", 9, 2, 1);
        lastsIs("B1H10H10H10F05F05", 9, 2, 1, 3);
        lastsIs("B1H10H10H10F04F04", 8, 2, 1, 3);
        lastsIs("B1H10H10H10F09F09", 9, 2, 1, 3);
        Due.promise(19, "a DAY that does not ends the row");
        lastsIs("B3H20H30F09", 0, 2, 1);
        Strawless x = Due.sent("B3H20H30F09", 2);
        x.day();
        x.send(1, 1);
        Due.is("lasts(), with STRAW for 4, 3, 2", x.lasts(), 2);
    }

    private static void lastsByCount() {
        Due.promise(19, "MAKE COUNT SOUND ones or more each");
        int[] due = {9, 3, 3, 3, 0, 0, 0, 0, 0, 0};
        for (int count = 0; count <= 9; count++) {
            lastsIs("B" + count + "H30H30F09", due[count], 2, 1);
        }
        lastsIs("B0", 9);
        lastsIs("B1", 0);
        lastsIs("B1H40F09", 0);
        Due.promise(19, "HOLLOW ones do not count");
        lastsIs("B1H40", 0, 1);
        lastsIs("B3H30H40F09", 3, 2, 1);
        lastsIs("B4H30H40F09", 0, 2, 1);
        lastsIs("B9H41H30F09", 0, 1, 1);
    }

    private static void lastsFromNow() {
        Due.promise(19, "from now on, with TASKS as they are; what is turned does not count");
        Strawless x = Due.sent("B3H30H30F09", 2, 1);
        for (int due = 3; due >= 0; due--) {
            Due.is("lasts()", x.lasts(), due);
            Due.is("lasts() again", x.lasts(), due);
            x.day();
        }
        x.turn(9);
        Due.is("lasts(), 9 are turned", x.lasts(), 0);
        Due.is("turned stays", x.about(6), 9);
        Due.is("BLOWS stay", x.about(9), 0);
        Due.is("THE DAY stays", x.about(10), 4);
    }

    private static void spareIs(int n, int r, int looks, int fewest, int wall) {
        Strawless x = new Strawless();
        Due.is("spare(" + n + ", " + r + ", " + looks + ", 0)", x.spare(n, r, looks, 0), fewest);
        Due.is("spare(" + n + ", " + r + ", " + looks + ", 1)", x.spare(n, r, looks, 1), wall);
    }

    private static void spareOfEachHeight() {
        Due.promise(20, "a WALL of n courses (1 .. 8), r RAINS (0 .. 3) and looks (bits of n courses)");
        for (int n = 1; n <= 8; n++) {
            int every = (1 << n) - 1;
            for (int r = 0; r <= 3; r++) {
                spareIs(n, r, 0, 0, 0);
                spareIs(n, r, every, n, every);
                spareIs(n, r, 1, 1, 1);
                Strawless x = new Strawless();
                Due.is("looks one above, n " + n, x.spare(n, r, every + 1, 0), -2);
                Due.is("looks one above, n " + n, x.spare(n, r, every + 1, 1), -2);
            }
            spareIs(n, 0, 1 << n - 1, 1, 1 << n - 1);
        }
    }

    private static void spareOneCourse() {
        Due.promise(20, "the fewest SOUND courses by which, behind r RAINS, all courses at which one looks are there and SOUND");
        for (int n = 1; n <= 8; n++) {
            for (int r = 1; r <= 3; r++) {
                // the last course that a RAIN takes nothing from below, and the highest of all
                int highest = n - 1 - r;
                if (highest >= 1) {
                    spareIs(n, r, 1 << highest, 1, 1 << n - 1);
                }
                if (n >= 2) {
                    spareIs(n, r, 1 << n - 1, n, (1 << n) - 1);
                }
            }
        }
        spareIs(4, 2, 0b0100, 3, 0b0111);
        spareIs(5, 3, 0b00100, 3, 0b00111);
        spareIs(5, 3, 0b00010, 1, 0b10000);
    }

    private static void spareWhatIsThere() {
        Due.promise(20, "the first such WALL (SOUND courses as bits, the least)");
        spareIs(3, 1, 0b001, 1, 0b001);
        spareIs(3, 1, 0b010, 1, 0b100);
        spareIs(3, 1, 0b011, 2, 0b011);
        spareIs(3, 1, 0b100, 3, 0b111);
        spareIs(4, 1, 0b0110, 2, 0b1100);
        spareIs(4, 1, 0b0101, 2, 0b1001);
        spareIs(8, 3, 17, 2, 129);
        Due.promise(20, "the WALL that stands is not asked");
        Strawless x = Due.wall("SSHH");
        Due.is("spare(4, 1, 2, 1)", x.spare(4, 1, 2, 1), 4);
        Due.is("how high", x.about(7), 4);
        Due.is("SOUND courses", x.about(8), 3);
    }

    private static void spareRefuses() {
        Due.promise(20, "BAD: n, r, looks (bits of n courses), what");
        Strawless x = new Strawless();
        for (int what = 0; what <= 1; what++) {
            for (int n : new int[] {0, 9, 31, 32, 33, -1, -8, Integer.MIN_VALUE, Integer.MAX_VALUE}) {
                Due.is("spare(" + n + ", 0, 0, " + what + ")", x.spare(n, 0, 0, what), -2);
            }
            for (int r : new int[] {-1, 4, Integer.MIN_VALUE, Integer.MAX_VALUE}) {
                Due.is("spare(8, " + r + ", 0, " + what + ")", x.spare(8, r, 0, what), -2);
            }
            for (int looks : new int[] {-1, 256, 511, Integer.MIN_VALUE, Integer.MAX_VALUE}) {
                Due.is("spare(8, 0, " + looks + ", " + what + ")", x.spare(8, 0, looks, what), -2);
            }
        }
        for (int what : new int[] {-1, 2, Integer.MIN_VALUE, Integer.MAX_VALUE}) {
            Due.is("spare(8, 0, 0, " + what + ")", x.spare(8, 0, 0, what), -2);
        }
    }

    private static void shareIs(Strawless x, int hand, int upper, int lower) {
        Due.is("share(" + hand + ", true)", x.share(hand, true), upper);
        Due.is("share(" + hand + ", false)", x.share(hand, false), lower);
    }

    private static void shareByHands() {
        for (int hands = 0; hands <= 5; hands++) {
            Due.promise(21, "UNKNOWN, of " + hands);
            Strawless x = Due.of("B0" + "H40".repeat(hands) + "F09");
            for (int hand = 0; hand < hands; hand++) {
                shareIs(x, hand, 0, 1);
            }
            shareIs(x, hands, -1, -1);
            shareIs(x, 5, -1, -1);
            for (int hand : FAR_OFF) {
                shareIs(x, hand, -1, -1);
            }
        }
    }

    private static void shareInLeastTerms() {
        Due.promise(21, "a FRACTION, above and below in least terms; none is 0 and 1");
        Strawless one = Due.sent("B0H40F09", 2);
        shareIs(one, 0, 0, 1);
        one.day();
        one.send(0, 1);
        shareIs(one, 0, 4, 1);
        one.send(0, 0);
        shareIs(one, 0, 0, 1);
        Strawless two = Due.sent("B0H40H40F09", 2, 1);
        shareIs(two, 0, 2, 1);
        shareIs(two, 1, 2, 1);
        shareIs(Due.sent("B0H40H30F09", 2, 1), 0, 3, 2);
        Strawless hollow = Due.sent("B0H40H30", 1, 1);
        shareIs(hollow, 0, 0, 1);
        shareIs(hollow, 1, 0, 1);
    }

    private static void shareInEachOrder() {
        Due.promise(21, "HANDS come one by one, in each order as likely (others REST)");
        // HAND 0 alone gathers, one straw: it brings 1 unless it comes first, another one if it comes right behind it
        int[][] due = {{1, 2, 1, 2}, {2, 3, 1, 6}, {3, 4, 1, 12}, {4, 5, 1, 20}};
        for (int hands = 2; hands <= 5; hands++) {
            Strawless x = Due.of("B0" + "H10".repeat(hands) + "F09");
            for (int hand = 0; hand < hands; hand++) {
                x.send(hand, hand == 0 ? 2 : 1);
            }
            int[] row = due[hands - 2];
            shareIs(x, 0, row[0], row[1]);
            for (int hand = 1; hand < hands; hand++) {
                shareIs(x, hand, row[2], row[3]);
            }
        }
        Due.promise(21, "a HAND that RESTS has none, and takes none");
        Strawless x = Due.sent("B0H10H10H10F09", 2, 0, 1);
        shareIs(x, 0, 1, 2);
        shareIs(x, 1, 0, 1);
        shareIs(x, 2, 1, 2);
        Due.promise(21, "nothing is changed");
        Due.is("TASK", x.hand(0, 2), 2);
        Due.is("TASK", x.hand(2, 2), 1);
        Due.is("STRAWS", x.field(0, 1), 9);
        Due.is("ACTS", x.about(11), 2);
    }

    private static void shareNineAtMost() {
        Due.promise(21, "SOUND bricks of a DAY, 9 at most");
        Strawless x = Due.sent("B0H41H41F09F09", 2, 3);
        Due.days(x, 3);
        x.send(0, 1);
        x.send(1, 1);
        // alone 6, the second one only 3 more
        shareIs(x, 0, 9, 2);
        shareIs(x, 1, 9, 2);
        x.day();
        x.day();
        shareIs(x, 0, 0, 1);
        Due.promise(21, "no more than there are STRAWS in the FIELD");
        Strawless bare = Due.sent("B0H30H30H41F04", 2, 2, 1);
        // HAND 2 and one that gathers have 3, all have 4
        shareIs(bare, 0, 5, 6);
        shareIs(bare, 1, 5, 6);
        shareIs(bare, 2, 7, 3);
    }
}
