/** The edges that promises 25 to 28 name: rests, chance, seed, years. */
public final class EdgesChancesTest {
    private static final long FACTOR = 6364136223846793005L, STEP = 1442695040888963407L;

    public static void main(String[] args) {
        restsByWhatTasksMake();
        restsWhat();
        chanceFromLeastToMost();
        chanceRefuses();
        chanceByHeight();
        chanceInLeastTerms();
        chanceOfMoreRainsThanHollow();
        chanceChangesNothing();
        seedFromLeastToMost();
        yearsOneToTwenty();
        yearsRefuse();
        yearsWrapTheSeed();
        yearsUpper31Bits();
        yearsOfHandsThereAre();
        yearsOfTasksThereAre();
        yearsGoOn();
        yearsGiveBlows();
        yearsChangeNothing();
        Due.endOfPromises(25, 28);
    }

    private static void restsByWhatTasksMake() {
        Due.promise(25, "c (0 .. 9), m (0 .. 9, no more than TASKS now MAKE)");
        String[] texts = {"B0", "B9H12", "B0H10", "B0H20", "B9H30", "B0H40", "B0H31", "B0H41", "B0H41H10", "B0H41H20", "B0H41H30", "B0H41H40",
            "B9H41H41H41H41H41"};
        int[] makes = {0, 0, 1, 2, 3, 4, 5, 6, 7, 8, 9, 9, 9};
        for (int n = 0; n < texts.length; n++) {
            Strawless x = Due.of(texts[n]);
            Due.is("rests(0), all REST in " + texts[n], x.rests(0), 1);
            Due.is("rests(1), all REST in " + texts[n], x.rests(1), 0);
            for (int hand = 0; hand < x.about(0); hand++) {
                x.send(hand, 1);
            }
            // at rest are c and m that are like: one of them for each m that can be made
            Due.is("rests(0) of " + texts[n], x.rests(0), makes[n] + 1);
            Due.is("rests(1) of " + texts[n], x.rests(1), 0);
        }
        Due.promise(25, "what is turned is not made");
        Strawless x = Due.sent("B0H20", 1);
        Due.days(x, 2);
        x.turn(4);
        Due.is("rests(0)", x.rests(0), 3);
        Due.is("turned", x.about(6), 4);
    }

    private static void restsWhat() {
        Due.promise(25, "how many (what = 0), the first one (1). BAD");
        for (int what : new int[] {-1, 2, Integer.MIN_VALUE, Integer.MAX_VALUE}) {
            Due.is("rests(" + what + ")", new Strawless().rests(what), -2);
            Due.is("rests(" + what + ")", Due.sent("B0H40", 1).rests(what), -2);
        }
    }

    private static void chanceIs(Strawless x, int n, int h, int tenths, int upper, int lower) {
        String call = "chance(" + n + ", " + h + ", " + tenths + ", ";
        Due.is(call + "true)", x.chance(n, h, tenths, true), upper);
        Due.is(call + "false)", x.chance(n, h, tenths, false), lower);
    }

    private static void chanceFromLeastToMost() {
        Due.promise(26, "n DAYS (1 .. 6), x tenths (0 .. 10), h (0 .. 8)");
        Strawless x = Due.wall("HHHHHHHH");
        chanceIs(x, 1, 8, 0, 1, 1);
        chanceIs(x, 1, 8, 1, 9, 10);
        chanceIs(x, 1, 8, 9, 1, 10);
        chanceIs(x, 1, 8, 10, 0, 1);
        chanceIs(x, 1, 7, 10, 1, 1);
        chanceIs(x, 6, 8, 0, 1, 1);
        chanceIs(x, 6, 8, 1, 531441, 1000000);
        chanceIs(x, 6, 8, 9, 1, 1000000);
        chanceIs(x, 6, 8, 10, 0, 1);
        chanceIs(x, 6, 3, 10, 0, 1);
        chanceIs(x, 6, 2, 10, 1, 1);
        for (int n = 1; n <= 6; n++) {
            for (int tenths = 0; tenths <= 10; tenths++) {
                chanceIs(x, n, 0, tenths, 1, 1);
                chanceIs(x, n, 8 - n, tenths, 1, 1);
            }
        }
    }

    private static void chanceRefuses() {
        Due.promise(26, "BAD: n, h, x");
        Strawless x = Due.wall("HS");
        for (int n : new int[] {0, 7, -1, Integer.MIN_VALUE, Integer.MAX_VALUE}) {
            chanceIs(x, n, 0, 0, -2, -2);
        }
        for (int h : new int[] {-1, 9, Integer.MIN_VALUE, Integer.MAX_VALUE}) {
            chanceIs(x, 1, h, 0, -2, -2);
        }
        for (int tenths : new int[] {-1, 11, Integer.MIN_VALUE, Integer.MAX_VALUE}) {
            chanceIs(x, 1, 0, tenths, -2, -2);
        }
    }

    private static void chanceByHeight() {
        Due.promise(26, "that the WALL is h courses high or higher then");
        for (int high = 0; high <= 8; high++) {
            Strawless x = Due.wall("S".repeat(high));
            for (int h = 0; h <= 8; h++) {
                chanceIs(x, 6, h, 5, h <= high ? 1 : 0, 1);
            }
        }
        Strawless three = Due.wall("HSH");
        chanceIs(three, 1, 4, 3, 0, 1);
        chanceIs(three, 1, 3, 3, 7, 10);
        chanceIs(three, 1, 2, 3, 1, 1);
        chanceIs(three, 2, 3, 3, 49, 100);
        chanceIs(three, 2, 2, 3, 91, 100);
        chanceIs(three, 2, 1, 3, 1, 1);
    }

    private static void chanceInLeastTerms() {
        Due.promise(26, "a FRACTION, above and below in least terms");
        Strawless x = Due.wall("H");
        int[][] due = {{1, 1}, {9, 10}, {4, 5}, {7, 10}, {3, 5}, {1, 2}, {2, 5}, {3, 10}, {1, 5}, {1, 10}, {0, 1}};
        for (int tenths = 0; tenths <= 10; tenths++) {
            chanceIs(x, 1, 1, tenths, due[tenths][0], due[tenths][1]);
        }
        chanceIs(x, 2, 1, 5, 1, 4);
        chanceIs(x, 6, 1, 5, 1, 64);
        chanceIs(x, 6, 1, 8, 1, 15625);
        chanceIs(x, 6, 1, 7, 729, 1000000);
        chanceIs(new Strawless(), 6, 1, 5, 0, 1);
        chanceIs(new Strawless(), 6, 0, 5, 1, 1);
    }

    private static void chanceOfMoreRainsThanHollow() {
        Due.promise(26, "it RAINS on a WALL that has no HOLLOW course left");
        Strawless x = Due.wall("SHSH");
        chanceIs(x, 6, 2, 10, 1, 1);
        chanceIs(x, 6, 3, 10, 0, 1);
        chanceIs(x, 6, 3, 5, 7, 64);
        chanceIs(x, 6, 4, 5, 1, 64);
        chanceIs(x, 6, 5, 0, 0, 1);
        chanceIs(x, 2, 3, 5, 3, 4);
        chanceIs(x, 1, 3, 5, 1, 1);
    }

    private static void chanceChangesNothing() {
        Due.promise(26, "nothing is changed");
        Strawless x = Due.wall("SHH");
        String before = Due.print(x);
        x.chance(6, 2, 10, true);
        x.chance(7, 2, 10, true);
        Due.same("chance", Due.print(x), before);
    }

    private static void seedFromLeastToMost() {
        Due.promise(27, "THE SEED is v (a long; 0 at first): what it was");
        long[] seeds = {1, -1, Long.MAX_VALUE, Long.MIN_VALUE, Integer.MAX_VALUE, Integer.MIN_VALUE, 1L << 32, 0};
        Strawless x = new Strawless();
        long was = 0;
        for (long seed : seeds) {
            Due.is("seed(" + seed + ")", x.seed(seed), was);
            Due.is("seed(" + seed + ") again", x.seed(seed), seed);
            was = seed;
        }
    }

    private static void yearsOneToTwenty() {
        Due.promise(28, "m times (1 .. 20)");
        for (int m = 1; m <= 20; m++) {
            Strawless x = Due.of("B1");
            x.seed(7);
            Due.is("years(" + m + ")", x.years(m), m);
            long due = 7;
            for (int n = 0; n < m; n++) {
                due = due * FACTOR + STEP;
            }
            Due.is("THE SEED behind " + m, x.seed(0), due);
        }
        Due.is("years(20), 9 each", Due.of("B9").years(20), 180);
        Due.is("years(20), nothing asked", Due.of("B0").years(20), 0);
        Due.is("years(1), new", new Strawless().years(1), 0);
    }

    private static void yearsRefuse() {
        Due.promise(28, "BAD: m");
        Strawless x = Due.of("B1");
        x.seed(7);
        for (int m : new int[] {0, 21, -1, Integer.MIN_VALUE, Integer.MAX_VALUE}) {
            Due.is("years(" + m + ")", x.years(m), -2);
        }
        Due.is("THE SEED", x.seed(0), 7);
    }

    private static void yearsWrapTheSeed() {
        Due.promise(28, "x times 6364136223846793005 and 1442695040888963407 (64 bits, wrapping)");
        long[] seeds = {0, 1, -1, 2, Long.MAX_VALUE, Long.MIN_VALUE};
        long[] due = {1442695040888963407L, 7806831264735756412L, -4921441182957829598L, -4275776585127002199L,
            4301930853896946210L, -7780676995965812401L};
        for (int n = 0; n < seeds.length; n++) {
            Strawless x = new Strawless();
            x.seed(seeds[n]);
            x.years(1);
            Due.is("THE SEED behind " + seeds[n], x.seed(0), due[n]);
        }
    }

    /** A seed behind which this number comes. */
    private static long seedBefore(long next) {
        long inverse = 1;
        for (int n = 0; n < 6; n++) {
            inverse *= 2 - FACTOR * inverse;
        }
        return (next - STEP) * inverse;
    }

    /** A year whose number has these upper 31 bits, and all others below. */
    private static int yearOf(Strawless x, long upper31, long below) {
        x.seed(seedBefore(upper31 << 33 | below));
        return x.years(1);
    }

    private static void yearsUpper31Bits() {
        Due.promise(28, "what is left of its upper 31 bits by 30");
        long lower33 = (1L << 33) - 1;
        // HAND 4 of strength 4 alone MOULDS: it is sent to REST by 24 alone
        for (long upper : new long[] {24, 24 + 30, 2147483634L, 24 + 30 * 70000000L}) {
            Strawless x = Due.sent("B9H10H10H10H10H40F00F00F00", 0, 0, 0, 0, 1);
            Due.is("upper bits " + upper, yearOf(x, upper, 0), 9);
            Due.is("upper bits " + upper + ", others below", yearOf(x, upper, lower33), 9);
            Due.is("upper bits " + (upper + 1), yearOf(x, upper + 1, 0), 5);
            Due.is("upper bits " + (upper - 1) + ", others below", yearOf(x, upper - 1, lower33), 5);
        }
        Due.promise(28, "the highest of the upper 31 bits, also where THE SEED is less than 0");
        // 2147483647 by 30 leaves 7: HAND 1 MOULDS; 1073741824 leaves 4
        Strawless x = Due.of("B9H10H40F00F00F00");
        Due.is("all bits", yearOf(x, 2147483647L, lower33), 5);
        Due.is("no bits", yearOf(x, 0, 0), 9);
        Strawless y = Due.sent("B9H40H10F00F00F00", 1);
        Due.is("the highest bit alone", yearOf(y, 1073741824L, 0), 9);
    }

    private static void yearsOfHandsThereAre() {
        for (int hands = 0; hands <= 5; hands++) {
            Due.promise(28, "that by 6 (down) is a HAND, if there is such a one, of " + hands);
            Strawless x = Due.of("B9" + "H40".repeat(hands));
            for (int hand = 0; hand < 5; hand++) {
                Due.is("HAND " + hand + " MOULDS", yearOf(x, 6 * hand + 1, 0), hand < hands ? 5 : 9);
                Due.is("HAND " + hand + " RESTS", yearOf(x, 6 * hand, 0), 9);
            }
        }
    }

    private static void yearsOfTasksThereAre() {
        for (int fields = 0; fields <= 3; fields++) {
            Due.promise(28, "what is left by 6 its TASK, if there is such a one, of " + fields + " FIELDS");
            Strawless x = Due.sent("B9H40H40" + "F09".repeat(fields), 0, 1);
            for (int task = 0; task <= 5; task++) {
                boolean moulds = task == 1 || task >= 2 + fields;
                Due.is("TASK " + task + " of HAND 1", yearOf(x, 6 + task, 0), moulds ? 5 : 9);
                Due.is("TASK " + task + " of HAND 0", yearOf(x, task, 0), task == 1 ? 1 : 5);
            }
        }
    }

    private static void yearsGoOn() {
        Due.promise(28, "its TASK from then on");
        // some seed by whose first two numbers HAND 0 MOULDS, then one that is not there is told
        Strawless x = Due.of("B9H40");
        for (long below = 0; below < 100; below++) {
            long first = 1L << 33 | below;
            long second = first * FACTOR + STEP;
            if ((second >>> 33) % 30 >= 6) {
                x.seed(seedBefore(first));
                Due.is("years(2)", x.years(2), 10);
            }
        }
        Due.promise(28, "TASKS are as they were before the next call");
        Due.is("TASK", x.hand(0, 2), 0);
        Due.is("a year more", yearOf(x, 6, 0), 9);
    }

    private static void yearsGiveBlows() {
        Due.promise(28, "how many BLOWS were given, all together: those of these years");
        Strawless x = Due.of("B7");
        Due.days(x, 3);
        Due.is("BLOWS before", x.about(9), 21);
        Due.is("years(2)", x.years(2), 14);
        Due.promise(28, "what is turned is counted in the first year alone");
        Strawless turned = Due.sent("B9H40", 1);
        turned.day();
        turned.turn(3);
        Due.is("a year", yearOf(turned, 29, 0), 2);
        long first = 29L << 33;
        for (long below = 0; below < 1000; below++) {
            long second = (first | below) * FACTOR + STEP;
            if ((second >>> 33) % 30 >= 6) {
                turned.seed(seedBefore(first | below));
                Due.is("two years", turned.years(2), 7);
                break;
            }
        }
        Due.is("turned", turned.about(6), 3);
    }

    private static void yearsChangeNothing() {
        Due.promise(28, "Nothing changes but THE SEED");
        Strawless x = Due.sent("B8H41H30H22F09F09", 1, 2, 3);
        Due.days(x, 2);
        x.lay(1);
        x.turn(1);
        x.keep(0);
        x.see(1, 1, 1);
        x.seed(3);
        String before = Due.print(x);
        x.years(20);
        Due.is("THE SEED changes", x.seed(3) == 3 ? 1 : 0, 0);
        Due.same("years(20)", Due.print(x), before);
        x.years(21);
        Due.same("years(21)", Due.print(x), before);
    }
}
