/** Promises 15 to 21: makes, best, least, ask, lasts, spare, share. */
public final class PlansTest {
    public static void main(String[] args) {
        makes();
        best();
        least();
        ask();
        lasts();
        spare();
        spareRefuses();
        share();
        nothingIsChanged();
        Due.end();
    }

    private static void makesAre(Strawless x, int plan, int all, int sound) {
        Due.is("makes(" + plan + ", 0)", x.makes(plan, 0), all);
        Due.is("makes(" + plan + ", 1)", x.makes(plan, 1), sound);
    }

    private static void makes() {
        Strawless x = Due.of("B0H30H41F03F19");
        makesAre(x, 0, 0, 0);
        makesAre(x, 10, 3, 0);
        makesAre(x, 1, 6, 0);
        makesAre(x, 11, 9, 0);
        makesAre(x, 12, 3, 3);
        makesAre(x, 13, 3, 3);
        makesAre(x, 21, 6, 3);
        makesAre(x, 31, 6, 2);
        makesAre(x, 33, 0, 0);
        int[] bad = {-1, 4, 9, 14, 40, 41, 99, 100, 110, 1000000000, Integer.MAX_VALUE, Integer.MIN_VALUE};
        for (int plan : bad) {
            makesAre(x, plan, -2, -2);
        }
        Due.is("makes(0, -1)", x.makes(0, -1), -2);
        Due.is("makes(0, 2)", x.makes(0, 2), -2);
        x.send(0, 2);
        x.day();
        makesAre(x, 1, 6, 3);
        makesAre(x, 21, 6, 3);
        makesAre(x, 31, 6, 5);
        makesAre(Due.of("B0H41H41"), 11, 9, 0);
        Strawless five = Due.of("B0H10H20H10H43H42F09");
        makesAre(five, 11112, 4, 3);
        makesAre(five, 22111, 4, 3);
        makesAre(five, 1, 3, 0);
        makesAre(five, 10000, 1, 0);
        makesAre(five, 100000, -2, -2);
        Strawless none = Due.of("B0F09");
        makesAre(none, 0, 0, 0);
        makesAre(none, 1, -2, -2);
        Strawless three = Due.of("B0H10F01F01F01");
        makesAre(three, 4, 0, 0);
        makesAre(three, 5, -2, -2);
    }

    private static void bestIs(String text, int plan, int sound) {
        Strawless x = Due.of(text);
        Due.is("best(0) of " + text, x.best(0), plan);
        Due.is("best(1) of " + text, x.best(1), sound);
    }

    private static void best() {
        bestIs("B0", 0, 0);
        bestIs("B1", -9, -9);
        bestIs("B0H40", 0, 0);
        bestIs("B4H40", 1, 0);
        bestIs("B5H40", -9, -9);
        bestIs("B3H40H30", 1, 0);
        bestIs("B4H40H30", 10, 0);
        bestIs("B3H40H30F09", 12, 3);
        bestIs("B4H40H30F09", 12, 3);
        bestIs("B5H40H30F09", 11, 0);
        bestIs("B0H40H30F09", 12, 3);
        // like ones: fewer at work go ahead of a lesser number
        bestIs("B2H40H20H10H10F02", 1200, 2);
        bestIs("B2H20H20H40F02", 12, 2);
        bestIs("B2H10H10H20F02", 112, 2);
        bestIs("B1H40H11F00F02", 31, 2);
        Strawless x = Due.of("B0H30");
        Due.is("best(-1)", x.best(-1), -2);
        Due.is("best(2)", x.best(2), -2);
        Due.is("best(2), none", Due.of("B9").best(2), -2);
        Strawless strawy = Due.of("B0H30H30F09");
        strawy.send(0, 2);
        strawy.day();
        Due.is("best(0), with straw", strawy.best(0), 1);
        Due.is("best(1), with straw", strawy.best(1), 3);
        Strawless weighed = Due.of("B2H40H20H10H10F02");
        weighed.makes(2000, 0);
        Due.is("best(0) behind makes", weighed.best(0), 1200);
        weighed.send(0, 2);
        weighed.share(0, true);
        Due.is("best(0) behind share", weighed.best(0), 1200);
        Due.is("best(0) behind best", weighed.best(0), 1200);
        Strawless turned = Due.of("B5H40");
        turned.send(0, 1);
        turned.day();
        turned.turn(4);
        Due.is("what is turned makes nothing", turned.best(0), -9);
    }

    private static void least() {
        Due.is("least", Due.of("B0").least(), 0);
        Due.is("least", Due.of("B0H10").least(), 0);
        Due.is("least", Due.of("B1").least(), -9);
        Due.is("least", Due.of("B6H10H41H40").least(), 1);
        Due.is("least", Due.of("B7H10H41H40").least(), 2);
        Due.is("least", Due.of("B9H10H30H40H20").least(), 3);
        Due.is("least", Due.of("B9H20H20H20H20H10").least(), 5);
        Due.is("least", Due.of("B9H20H20H20H20H12F09").least(), -9);
        Due.is("least", Due.of("B1H43").least(), -9);
    }

    private static void ask() {
        Due.is("ask", Due.of("B9").ask(), 0);
        Due.is("ask, no field", Due.of("B9H40H40").ask(), 0);
        Due.is("ask", Due.of("B9H40H40F09").ask(), 4);
        Due.is("ask", Due.of("B0H30H40F09").ask(), 3);
        Due.is("ask", Due.of("B0H41H30F09").ask(), 3);
        Due.is("ask: 2 straws are too few for 5", Due.of("B0H23H31F09").ask(), 0);
        Due.is("ask", Due.of("B0H41H30H30F09").ask(), 6);
        Strawless x = Due.of("B0H41F09");
        x.send(0, 2);
        x.day();
        Due.is("ask, 4 straws for 6", x.ask(), 0);
        x.day();
        Due.is("ask, 8 straws for 6", x.ask(), 6);
        x.send(0, 1);
        x.day();
        Due.is("ask, 2 straws for 6", x.ask(), 0);
        Strawless most = Due.of("B0H40H40H40H40H40F09F09");
        for (int hand = 0; hand < 5; hand++) {
            most.send(hand, 2 + hand % 2);
        }
        most.day();
        Due.is("ask, 9 at most", most.ask(), 9);
    }

    private static int lastsOf(String text, int... tasks) {
        Strawless x = Due.of(text);
        for (int hand = 0; hand < tasks.length; hand++) {
            x.send(hand, tasks[hand]);
        }
        return x.lasts();
    }

    private static void lasts() {
        Due.is("lasts, nothing asked", Due.of("B0").lasts(), 9);
        Due.is("lasts, all rest", Due.of("B1H40F09").lasts(), 0);
        Due.is("lasts", lastsOf("B1H10H10F09", 2, 1), 9);
        Due.is("lasts", lastsOf("B1H10H10F08", 2, 1), 8);
        Due.is("lasts", lastsOf("B1H10H10H10F09F09", 2, 1, 3), 9);
        Due.is("lasts", lastsOf("B3H30H30F09", 2, 1), 3);
        Due.is("lasts", lastsOf("B3H40H30F09", 2, 1), 3);
        Due.is("lasts, hollow ones are not counted", lastsOf("B3H20H30F09", 2, 1), 0);
        Due.is("lasts, straw is saved", lastsOf("B2H40H20F09", 2, 1), 4);
        Due.is("lasts", lastsOf("B4H40H30F09", 2, 1), 0);
        Strawless x = Due.of("B3H30H30F09");
        x.send(0, 2);
        x.send(1, 1);
        x.day();
        Due.is("lasts, a day less", x.lasts(), 2);
        x.turn(3);
        x.send(1, 0);
        Due.is("lasts, what is turned is not counted", x.lasts(), 0);
    }

    private static void spareIs(int n, int r, int looks, int fewest, int wall) {
        Strawless x = new Strawless();
        Due.is("spare(" + n + ", " + r + ", " + looks + ", 0)", x.spare(n, r, looks, 0), fewest);
        Due.is("spare(" + n + ", " + r + ", " + looks + ", 1)", x.spare(n, r, looks, 1), wall);
    }

    private static void spare() {
        spareIs(1, 0, 0, 0, 0);
        spareIs(1, 0, 1, 1, 1);
        spareIs(1, 3, 1, 1, 1);
        spareIs(8, 3, 0, 0, 0);
        spareIs(8, 3, 255, 8, 255);
        spareIs(8, 0, 0b10010, 2, 0b10010);
        // one rain takes the lowest hollow one: what is looked at may lie one higher
        spareIs(4, 1, 0b0001, 1, 0b0001);
        spareIs(4, 1, 0b0010, 1, 0b0100);
        spareIs(4, 1, 0b0100, 1, 0b1000);
        spareIs(4, 1, 0b1000, 4, 0b1111);
        spareIs(5, 2, 0b00010, 1, 0b01000);
        spareIs(5, 2, 0b00100, 1, 0b10000);
        spareIs(8, 3, 17, 2, 129);
        spareIs(8, 1, 0b0100_0001, 2, 0b1000_0001);
        for (int looks = 0; looks < 256; looks++) {
            spareIs(8, 0, looks, Integer.bitCount(looks), looks);
        }
    }

    private static void spareRefuses() {
        Strawless x = new Strawless();
        int[][] bad = {{0, 0, 0, 0}, {9, 0, 0, 0}, {-1, 0, 0, 0}, {33, 0, 0, 0}, {Integer.MAX_VALUE, 0, 0, 0}, {1, -1, 0, 0}, {1, 4, 0, 0},
            {1, Integer.MAX_VALUE, 0, 0}, {1, 0, -1, 0}, {1, 0, 2, 0}, {8, 0, 256, 0}, {8, 0, Integer.MIN_VALUE, 0}, {3, 0, 8, 1},
            {1, 0, 0, -1}, {1, 0, 0, 2}};
        for (int[] b : bad) {
            Due.is("spare(" + b[0] + ", " + b[1] + ", " + b[2] + ", " + b[3] + ")", x.spare(b[0], b[1], b[2], b[3]), -2);
        }
        spareIs(3, 0, 7, 3, 7);
    }

    private static void shareIs(Strawless x, int hand, int upper, int lower) {
        Due.is("share(" + hand + ", true)", x.share(hand, true), upper);
        Due.is("share(" + hand + ", false)", x.share(hand, false), lower);
    }

    private static void share() {
        Strawless pair = Due.of("B0H30H41F09");
        shareIs(pair, 0, 0, 1);
        pair.send(0, 2);
        shareIs(pair, 0, 0, 1);
        pair.send(1, 1);
        // alone neither has a sound one, together 3
        shareIs(pair, 0, 3, 2);
        shareIs(pair, 1, 3, 2);
        pair.day();
        pair.send(1, 0);
        pair.day();
        pair.send(1, 1);
        // 3 straws lie there: the moulder alone has 3, both have 6
        shareIs(pair, 0, 3, 2);
        shareIs(pair, 1, 9, 2);

        Strawless three = Due.of("B0H10H10H10F09");
        three.send(0, 2);
        three.send(1, 1);
        three.send(2, 1);
        // one straw: whoever comes to make the pair whole has it
        shareIs(three, 0, 2, 3);
        shareIs(three, 1, 1, 6);
        shareIs(three, 2, 1, 6);

        Strawless five = Due.of("B0H10H10H10H10H10F09");
        for (int hand = 0; hand < 5; hand++) {
            five.send(hand, hand == 0 ? 2 : 1);
        }
        shareIs(five, 0, 4, 5);
        shareIs(five, 4, 1, 20);

        Due.is("share(-1)", three.share(-1, true), -1);
        Due.is("share(3)", three.share(3, true), -1);
        Due.is("share(3, false)", three.share(3, false), -1);
        Due.is("share(max)", three.share(Integer.MAX_VALUE, true), -1);
        Due.is("share, nobody", new Strawless().share(0, false), -1);
    }

    private static void nothingIsChanged() {
        Strawless x = Due.of("B2H20H31H10F09F13");
        x.send(0, 2);
        x.send(1, 1);
        x.send(2, 3);
        x.day();
        x.turn(1);
        x.lay(1);
        String before = Due.print(x);
        x.makes(321, 0);
        x.makes(999, 1);
        x.best(0);
        x.best(1);
        x.least();
        x.ask();
        x.lasts();
        x.spare(8, 3, 5, 0);
        x.share(1, true);
        x.share(7, true);
        x.chance(3, 1, 5, true);
        x.rests(0);
        x.courses(4, 0);
        Due.same("what is only asked", Due.print(x), before);
        Due.is("undo", x.undo(), 5);
    }
}
