/** Promises 25 to 28: rests, chance, seed, years. */
public final class ChancesTest {
    public static void main(String[] args) {
        rests();
        chance();
        chanceRefuses();
        seed();
        yearsByHand();
        yearsAreBlowsOfTheseYears();
        yearsChangeNothing();
        Due.end();
    }

    private static void rests() {
        Due.is("rests(0), nobody", new Strawless().rests(0), 1);
        Due.is("rests(1), nobody", new Strawless().rests(1), 0);
        String[] texts = {"B0H10", "B0H20", "B9H40", "B0H41", "B0H41H11", "B0H41H41", "B0H43"};
        int[] due = {2, 3, 5, 7, 10, 10, 1};
        for (int n = 0; n < texts.length; n++) {
            Strawless x = Due.of(texts[n]);
            Due.is("rests(0), all rest in " + texts[n], x.rests(0), 1);
            for (int hand = 0; hand < x.about(0); hand++) {
                x.send(hand, 1);
            }
            Due.is("rests(0) of " + texts[n], x.rests(0), due[n]);
            Due.is("rests(1) of " + texts[n], x.rests(1), 0);
        }
        Due.is("rests(-1)", new Strawless().rests(-1), -2);
        Due.is("rests(2)", new Strawless().rests(2), -2);
    }

    private static void chanceIs(Strawless x, int n, int h, int tenths, int upper, int lower) {
        String call = "chance(" + n + ", " + h + ", " + tenths + ", ";
        Due.is(call + "true)", x.chance(n, h, tenths, true), upper);
        Due.is(call + "false)", x.chance(n, h, tenths, false), lower);
    }

    private static void chance() {
        Strawless none = new Strawless();
        chanceIs(none, 1, 0, 5, 1, 1);
        chanceIs(none, 6, 1, 0, 0, 1);
        Strawless three = Due.wall("HHH");
        chanceIs(three, 1, 3, 3, 7, 10);
        chanceIs(three, 1, 2, 3, 1, 1);
        chanceIs(three, 2, 2, 5, 3, 4);
        chanceIs(three, 2, 2, 3, 91, 100);
        chanceIs(three, 3, 3, 1, 729, 1000);
        chanceIs(three, 3, 1, 10, 0, 1);
        chanceIs(three, 3, 0, 10, 1, 1);
        chanceIs(three, 6, 3, 0, 1, 1);
        chanceIs(three, 6, 4, 0, 0, 1);
        chanceIs(three, 6, 3, 9, 1, 1000000);
        chanceIs(three, 6, 1, 5, 11, 32);
        chanceIs(three, 6, 8, 5, 0, 1);
        Strawless mixed = Due.wall("SHSH");
        // never less than its two sound ones
        chanceIs(mixed, 6, 2, 10, 1, 1);
        chanceIs(mixed, 6, 3, 10, 0, 1);
        chanceIs(mixed, 4, 3, 5, 5, 16);
        chanceIs(mixed, 1, 3, 10, 1, 1);
        chanceIs(mixed, 1, 4, 10, 0, 1);
        chanceIs(Due.wall("SSSSSSSS"), 6, 8, 10, 1, 1);
        chanceIs(Due.wall("HHHHHHHH"), 6, 2, 10, 1, 1);
        chanceIs(Due.wall("HHHHHHHH"), 6, 3, 10, 0, 1);
        chanceIs(Due.wall("HHHHHHHH"), 6, 3, 7, 882351, 1000000);
        mixed.rain();
        chanceIs(mixed, 4, 3, 5, 1, 16);
    }

    private static void chanceRefuses() {
        Strawless x = Due.wall("H");
        int[][] bad = {{0, 0, 0}, {7, 0, 0}, {-1, 0, 0}, {1, -1, 0}, {1, 9, 0}, {1, 0, -1}, {1, 0, 11}, {Integer.MAX_VALUE, 0, 0},
            {1, Integer.MIN_VALUE, 0}, {1, 0, Integer.MAX_VALUE}};
        for (int[] b : bad) {
            chanceIs(x, b[0], b[1], b[2], -2, -2);
        }
    }

    private static void seed() {
        Strawless x = new Strawless();
        long[] seeds = {5, -1, Long.MAX_VALUE, Long.MIN_VALUE, 0};
        long was = 0;
        for (long seed : seeds) {
            Due.is("seed(" + seed + ")", x.seed(seed), was);
            was = seed;
        }
        x.seed(99);
        x.years(0);
        x.years(21);
        Due.is("seed behind refused years", x.seed(0), 99);
        x.years(1);
        Due.is("seed behind a year", x.seed(0), 1442695040888963407L);
        x.seed(1);
        x.years(1);
        Due.is("seed behind a year", x.seed(0), 6364136223846793005L + 1442695040888963407L);
    }

    /** A seed whose next number tells this hand and this task. */
    private static long seedFor(int hand, int task) {
        for (long seed = 0; seed < 100000; seed++) {
            long next = seed * 6364136223846793005L + 1442695040888963407L;
            if ((next >>> 33) % 30 == 6 * hand + task) {
                return seed;
            }
        }
        throw new IllegalStateException("no seed");
    }

    private static int yearFor(Strawless x, int hand, int task) {
        x.seed(seedFor(hand, task));
        return x.years(1);
    }

    private static void yearsByHand() {
        Strawless x = Due.of("B9H20H31F09");
        x.send(0, 1);
        Due.is("hand 0 rests", yearFor(x, 0, 0), 9);
        Due.is("hand 0 moulds", yearFor(x, 0, 1), 7);
        Due.is("hand 0 gathers", yearFor(x, 0, 2), 9);
        Due.is("there is no field 1", yearFor(x, 0, 3), 7);
        Due.is("there is no field 3", yearFor(x, 0, 5), 7);
        Due.is("hand 1 moulds", yearFor(x, 1, 1), 2);
        Due.is("hand 1 gathers", yearFor(x, 1, 2), 7);
        Due.is("there is no hand 2", yearFor(x, 2, 1), 7);
        Due.is("there is no hand 4", yearFor(x, 4, 0), 7);
        Strawless full = Due.of("B9H10H10H10H10H40F00F00F00");
        full.send(4, 1);
        Due.is("hand 4 gathers in field 2", yearFor(full, 4, 4), 9);
        Due.is("there is no task 5", yearFor(full, 4, 5), 5);
    }

    private static void yearsAreBlowsOfTheseYears() {
        Strawless x = Due.of("B3");
        x.day();
        Due.is("years(1)", x.years(1), 3);
        Due.is("years(20)", x.years(20), 60);
        Due.is("years(0)", x.years(0), -2);
        Due.is("years(-1)", x.years(-1), -2);
        Due.is("years(21)", x.years(21), -2);
        Due.is("years(max)", x.years(Integer.MAX_VALUE), -2);
        Strawless turned = Due.of("B9H40");
        turned.send(0, 1);
        turned.day();
        turned.turn(3);
        turned.seed(seedFor(2, 0));
        Due.is("what is turned is counted once", turned.years(1), 2);
    }

    private static void yearsChangeNothing() {
        Strawless x = Due.of("B5H30H21H11F09F14");
        x.send(0, 2);
        x.send(1, 1);
        x.day();
        x.turn(1);
        x.seed(123456789L);
        String before = Due.print(x);
        int blows = x.years(20);
        long behind = x.seed(123456789L);
        Due.same("years", Due.print(x), before);
        x.years(7);
        x.years(13);
        Due.is("the seed goes on", x.seed(123456789L), behind);
        Due.is("the same years", x.years(20), blows);
        Due.is("acts", x.about(11), 4);
    }
}
