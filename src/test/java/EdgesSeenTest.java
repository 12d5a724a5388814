/** The edges that promises 22 to 24 name: see, unsee, courses. */
public final class EdgesSeenTest {
    public static void main(String[] args) {
        seeFromLeastToMost();
        seeRefuses();
        seeSix();
        unseeFromNoneToSix();
        coursesOfEachHeight();
        coursesRefuses();
        coursesNotThere();
        coursesAtTheTop();
        coursesBehindRains();
        coursesByEachSight();
        coursesBySix();
        Due.endOfPromises(22, 24);
    }

    private static void seeFromLeastToMost() {
        Due.promise(22, "behind r RAINS (0 .. 3) a course (0 .. 7) was HOLLOW (0), SOUND (1), or not there (2)");
        for (int r = 0; r <= 3; r++) {
            for (int course = 0; course <= 7; course++) {
                for (int how = 0; how <= 2; how++) {
                    Due.is("see(" + r + ", " + course + ", " + how + ")", new Strawless().see(r, course, how), 1);
                }
            }
        }
    }

    private static void seeRefuses() {
        Due.promise(22, "BAD: r, course, how (0 .. 2)");
        Strawless x = new Strawless();
        for (int r : new int[] {-1, 4, Integer.MIN_VALUE, Integer.MAX_VALUE}) {
            Due.is("see(" + r + ", 0, 0)", x.see(r, 0, 0), -2);
        }
        for (int course : new int[] {-1, 8, Integer.MIN_VALUE, Integer.MAX_VALUE}) {
            Due.is("see(0, " + course + ", 0)", x.see(0, course, 0), -2);
        }
        for (int how : new int[] {-1, 3, Integer.MIN_VALUE, Integer.MAX_VALUE}) {
            Due.is("see(0, 0, " + how + ")", x.see(0, 0, how), -2);
        }
        Due.is("SEEN", x.about(12), 0);
        Due.is("courses(8, 0)", x.courses(8, 0), 256);
    }

    private static void seeSix() {
        Due.promise(22, "how many there are; FULL: 6");
        Strawless x = new Strawless();
        for (int n = 1; n <= 6; n++) {
            Due.is("see the " + n + "th", x.see(0, n, 1), n);
            Due.is("SEEN", x.about(12), n);
        }
        Due.is("see the 7th", x.see(0, 0, 0), -4);
        Due.is("see the 7th, as before", x.see(0, 1, 1), -4);
        Due.is("SEEN", x.about(12), 6);
        Due.is("courses(8, 2): the 7th is not SEEN", x.courses(8, 2), 0);
        Due.promise(22, "BAD is told ahead of FULL");
        Due.is("see(4, 0, 0)", x.see(4, 0, 0), -2);
        Due.is("see(0, 8, 0)", x.see(0, 8, 0), -2);
        Due.is("see(0, 0, 3)", x.see(0, 0, 3), -2);
        Due.promise(22, "the same is SEEN twice, and what can't be so too");
        Strawless y = new Strawless();
        Due.is("see(1, 1, 1)", y.see(1, 1, 1), 1);
        Due.is("see(1, 1, 1)", y.see(1, 1, 1), 2);
        Due.is("see(1, 1, 0)", y.see(1, 1, 0), 3);
    }

    private static void unseeFromNoneToSix() {
        Due.promise(23, "Nothing is SEEN: how much there was");
        for (int many = 0; many <= 6; many++) {
            Strawless x = new Strawless();
            for (int n = 0; n < many; n++) {
                x.see(0, 0, 2);
            }
            Due.is("unsee() of " + many, x.unsee(), many);
            Due.is("SEEN", x.about(12), 0);
            Due.is("courses(1, 0)", x.courses(1, 0), 2);
            Due.is("unsee() of none", x.unsee(), 0);
        }
        Due.promise(23, "there is room again, and what was SEEN does not come back");
        Strawless x = new Strawless();
        for (int n = 0; n < 7; n++) {
            x.see(0, 0, 2);
        }
        Due.is("unsee()", x.unsee(), 6);
        for (int n = 1; n <= 6; n++) {
            Due.is("see", x.see(0, 0, 1), n);
            Due.is("courses(2, 0)", x.courses(2, 0), 2);
        }
        Due.is("see the 7th", x.see(0, 0, 1), -4);
    }

    private static void coursesAre(Strawless x, int n, int many, int sound, int hollow) {
        Due.is("courses(" + n + ", 0)", x.courses(n, 0), many);
        Due.is("courses(" + n + ", 1)", x.courses(n, 1), sound);
        Due.is("courses(" + n + ", 2)", x.courses(n, 2), hollow);
    }

    private static Strawless seen(int... sights) {
        Strawless x = new Strawless();
        for (int n = 0; n < sights.length; n += 3) {
            x.see(sights[n], sights[n + 1], sights[n + 2]);
        }
        return x;
    }

    private static void coursesOfEachHeight() {
        Due.promise(24, "a WALL of n courses (1 .. 8), nothing SEEN");
        for (int n = 1; n <= 8; n++) {
            coursesAre(seen(), n, 1 << n, 0, 0);
        }
    }

    private static void coursesRefuses() {
        Due.promise(24, "BAD: n, what");
        Strawless none = seen(0, 0, 0, 0, 0, 1);
        for (Strawless x : new Strawless[] {new Strawless(), none}) {
            for (int n : new int[] {0, 9, -1, 31, 32, 33, Integer.MIN_VALUE, Integer.MAX_VALUE}) {
                for (int what = 0; what <= 2; what++) {
                    Due.is("courses(" + n + ", " + what + ")", x.courses(n, what), -2);
                }
            }
            for (int what : new int[] {-1, 3, Integer.MIN_VALUE, Integer.MAX_VALUE}) {
                Due.is("courses(1, " + what + "), BAD ahead of NONE", x.courses(1, what), -2);
                Due.is("courses(8, " + what + "), BAD ahead of NONE", x.courses(8, what), -2);
            }
        }
    }

    private static void coursesNotThere() {
        for (int n = 1; n <= 8; n++) {
            Due.promise(24, "NONE (of the latter two): there are none, of " + n);
            coursesAre(seen(0, 0, 0, 0, 0, 1), n, 0, -9, -9);
            coursesAre(seen(0, n - 1, 2), n, 0, -9, -9);
            if (n <= 7) {
                Due.promise(24, "a course above the WALL is not there, of " + n);
                coursesAre(seen(0, n, 2), n, 1 << n, 0, 0);
                coursesAre(seen(0, n, 0), n, 0, -9, -9);
                coursesAre(seen(0, n, 1), n, 0, -9, -9);
                coursesAre(seen(0, 7, 2), n, 1 << n, 0, 0);
            }
        }
    }

    private static void coursesAtTheTop() {
        for (int n = 1; n <= 8; n++) {
            Due.promise(24, "SOUND in all, HOLLOW in all, the lowest and the highest of " + n);
            int half = 1 << n - 1;
            coursesAre(seen(0, n - 1, 1), n, half, half, 0);
            coursesAre(seen(0, n - 1, 0), n, half, 0, half);
            coursesAre(seen(0, 0, 1), n, half, 1, 0);
            coursesAre(seen(0, 0, 0), n, half, 0, 1);
        }
    }

    private static void coursesBehindRains() {
        for (int n = 1; n <= 8; n++) {
            int every = (1 << n) - 1;
            for (int r = 1; r <= 3; r++) {
                Due.promise(24, "behind r RAINS, " + r + " on " + n);
                // the highest is there only if no RAIN took one
                coursesAre(seen(r, n - 1, 1), n, 1, every, 0);
                coursesAre(seen(r, n - 1, 0), n, 0, -9, -9);
                coursesAre(seen(r, n - 1, 2), n, every, 0, n == 1 ? 1 : 0);
                // nothing is there only if every one was HOLLOW and there were RAINS enough
                boolean gone = n <= r;
                coursesAre(seen(r, 0, 2), n, gone ? 1 : 0, gone ? 0 : -9, gone ? every : -9);
            }
        }
    }

    /** All walls of up to 8 courses, beside each single sight, told by texts. */
    private static void coursesByEachSight() {
        Due.promise(24, "sets of SOUND ones (bits) by which all that is SEEN is so");
        for (int r = 0; r <= 3; r++) {
            for (int course = 0; course <= 7; course++) {
                for (int how = 0; how <= 2; how++) {
                    Strawless x = seen(r, course, how);
                    for (int n = 1; n <= 8; n++) {
                        agree(x, n, r, course, how);
                    }
                }
            }
        }
    }

    private static void agree(Strawless x, int n, int r, int course, int how) {
        int many = 0;
        int sound = (1 << n) - 1;
        int hollow = (1 << n) - 1;
        for (int bits = 0; bits < 1 << n; bits++) {
            String left = Due.coursesOf(n, bits);
            for (int rains = 0; rains < r; rains++) {
                left = left.replaceFirst("H", "");
            }
            char there = course < left.length() ? left.charAt(course) : '-';
            if (there == "HS-".charAt(how)) {
                many++;
                sound &= bits;
                hollow &= ~bits;
            }
        }
        coursesAre(x, n, many, many == 0 ? -9 : sound, many == 0 ? -9 : hollow);
    }

    private static void coursesBySix() {
        Due.promise(24, "all that is SEEN, up to the sixth");
        Strawless x = seen(0, 0, 1, 0, 1, 0, 0, 2, 1, 0, 3, 0, 0, 4, 1, 0, 5, 0);
        coursesAre(x, 6, 1, 0b010101, 0b101010);
        coursesAre(x, 8, 4, 0b010101, 0b101010);
        coursesAre(x, 5, 0, -9, -9);
        Strawless last = seen(0, 7, 2, 0, 7, 2, 0, 7, 2, 0, 7, 2, 0, 7, 2, 0, 0, 1);
        coursesAre(last, 7, 64, 1, 0);
        Strawless against = seen(0, 0, 1, 0, 0, 1, 0, 0, 1, 0, 0, 1, 0, 0, 1, 0, 0, 0);
        coursesAre(against, 8, 0, -9, -9);
        Due.promise(24, "the WALL that stands is not asked");
        Strawless wall = Due.wall("SH");
        coursesAre(wall, 2, 4, 0, 0);
        wall.see(0, 0, 0);
        coursesAre(wall, 2, 2, 0, 1);
    }
}
