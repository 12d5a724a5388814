/** Promises 22 to 24: see, unsee, courses. */
public final class SeenTest {
    public static void main(String[] args) {
        see();
        seeRefuses();
        unsee();
        coursesByOne();
        coursesByMany();
        coursesRefuses();
        staysApart();
        Due.end();
    }

    private static void see() {
        Strawless x = new Strawless();
        Due.is("see(0, 0, 0)", x.see(0, 0, 0), 1);
        Due.is("see(3, 7, 2)", x.see(3, 7, 2), 2);
        Due.is("see the same", x.see(3, 7, 2), 3);
        Due.is("see what can't be", x.see(3, 7, 1), 4);
        Due.is("see", x.see(1, 1, 1), 5);
        Due.is("see", x.see(1, 1, 1), 6);
        Due.is("see, full", x.see(1, 1, 1), -4);
        Due.is("about(12)", x.about(12), 6);
        Due.is("see, bad ahead of full", x.see(4, 1, 1), -2);
    }

    private static void seeRefuses() {
        int[][] bad = {{-1, 0, 0}, {4, 0, 0}, {0, -1, 0}, {0, 8, 0}, {0, 0, -1}, {0, 0, 3}, {Integer.MAX_VALUE, 0, 0},
            {0, Integer.MIN_VALUE, 0}, {0, 0, Integer.MAX_VALUE}};
        Strawless x = new Strawless();
        for (int[] b : bad) {
            Due.is("see(" + b[0] + ", " + b[1] + ", " + b[2] + ")", x.see(b[0], b[1], b[2]), -2);
        }
        Due.is("about(12)", x.about(12), 0);
        Due.is("courses(8, 0)", x.courses(8, 0), 256);
    }

    private static void unsee() {
        Strawless x = new Strawless();
        Due.is("unsee, none", x.unsee(), 0);
        x.see(0, 0, 2);
        x.see(0, 1, 2);
        Due.is("courses, none", x.courses(1, 0), 0);
        Due.is("unsee", x.unsee(), 2);
        Due.is("about(12)", x.about(12), 0);
        Due.is("courses, all", x.courses(1, 0), 2);
        Due.is("unsee, none", x.unsee(), 0);
        Due.is("see", x.see(0, 0, 1), 1);
        Due.is("courses, one", x.courses(1, 0), 1);
    }

    private static void coursesAre(Strawless x, int n, int many, int sound, int hollow) {
        Due.is("courses(" + n + ", 0)", x.courses(n, 0), many);
        Due.is("courses(" + n + ", 1)", x.courses(n, 1), sound);
        Due.is("courses(" + n + ", 2)", x.courses(n, 2), hollow);
    }

    private static void coursesByOne() {
        for (int n = 1; n <= 8; n++) {
            coursesAre(new Strawless(), n, 1 << n, 0, 0);
        }
        Strawless x = new Strawless();
        x.see(0, 2, 1);
        coursesAre(x, 2, 0, -9, -9);
        coursesAre(x, 3, 4, 4, 0);
        coursesAre(x, 4, 8, 4, 0);
        x = new Strawless();
        x.see(0, 2, 0);
        coursesAre(x, 2, 0, -9, -9);
        coursesAre(x, 3, 4, 0, 4);
        x = new Strawless();
        x.see(0, 2, 2);
        coursesAre(x, 2, 4, 0, 0);
        coursesAre(x, 3, 0, -9, -9);
        x = new Strawless();
        x.see(1, 2, 2);
        // a wall of 3 lost one: not all three were sound
        coursesAre(x, 3, 7, 0, 0);
        x.unsee();
        x.see(1, 2, 1);
        coursesAre(x, 3, 1, 7, 0);
        x.unsee();
        x.see(3, 0, 2);
        coursesAre(x, 3, 1, 0, 7);
        coursesAre(x, 4, 0, -9, -9);
        x.unsee();
        x.see(2, 0, 0);
        // two hollow ones are gone, and the lowest that is left is hollow: it had nothing sound below it
        coursesAre(x, 2, 0, -9, -9);
        coursesAre(x, 3, 1, 0, 7);
        coursesAre(x, 4, 2, 0, 7);
    }

    private static void coursesByMany() {
        Strawless x = new Strawless();
        x.see(0, 0, 1);
        x.see(0, 1, 0);
        x.see(2, 1, 1);
        x.see(3, 3, 2);
        coursesAre(x, 5, 5, 1, 2);
        x.unsee();
        x.see(0, 0, 0);
        x.see(0, 0, 1);
        coursesAre(x, 5, 0, -9, -9);
        x.unsee();
        x.see(3, 7, 1);
        coursesAre(x, 8, 1, 255, 0);
        coursesAre(x, 7, 0, -9, -9);
        x.unsee();
        for (int course = 0; course < 6; course++) {
            x.see(0, course, course % 2);
        }
        coursesAre(x, 8, 4, 0b101010, 0b010101);
        coursesAre(x, 6, 1, 0b101010, 0b010101);
    }

    private static void coursesRefuses() {
        Strawless x = new Strawless();
        int[][] bad = {{0, 0}, {9, 0}, {-1, 1}, {32, 0}, {Integer.MIN_VALUE, 0}, {Integer.MAX_VALUE, 2}, {1, -1}, {1, 3}, {8, Integer.MAX_VALUE}};
        for (int[] b : bad) {
            Due.is("courses(" + b[0] + ", " + b[1] + ")", x.courses(b[0], b[1]), -2);
        }
        x.see(0, 0, 2);
        Due.is("courses(1, 3), bad ahead of none", x.courses(1, 3), -2);
    }

    /** What is SEEN is no ACT, belongs to no SLOT and does not look at the WALL there is. */
    private static void staysApart() {
        Strawless x = Due.wall("SH");
        int acts = x.about(11);
        x.keep(0);
        x.see(0, 0, 0);
        Due.is("acts", x.about(11), acts);
        Due.is("courses", x.courses(1, 0), 1);
        x.undo();
        Due.is("seen behind undo", x.about(12), 1);
        x.again(0);
        Due.is("seen behind again", x.about(12), 1);
        x.pit();
        Due.is("seen behind pit", x.about(12), 1);
    }
}
