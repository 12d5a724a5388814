import java.io.ByteArrayOutputStream;
import java.io.PrintStream;

/** What the tests share: answers that are due, pits from texts, and a print of all that the face tells. */
final class Due {
    private static final boolean[] named = new boolean[31];
    private static int wrong = 0;
    private static int asked = 0;
    private static String sentence = "";

    private Due() { }

    /** What follows tests this sentence of this promise; a wrong answer is told with both. */
    static void promise(int number, String words) {
        named[number] = true;
        sentence = "promise " + number + " (" + words + "): ";
    }

    static void is(String call, long got, long want) {
        asked++;
        if (got != want) {
            wrong++;
            System.out.println(sentence + call + " answered " + got + ", due is " + want);
        }
    }

    static void same(String call, String got, String want) {
        asked++;
        if (!got.equals(want)) {
            wrong++;
            System.out.println(sentence + call + " left\n  " + got + ", due is\n  " + want);
        }
    }

    static void end() {
        System.out.println(wrong == 0 ? asked + " answers, all as due" : wrong + " of " + asked + " answers are not as due");
        if (wrong != 0 || asked == 0) {
            System.exit(1);
        }
    }

    /** The end of tests that name each of these promises. */
    static void endOfPromises(int first, int last) {
        sentence = "";
        for (int number = first; number <= last; number++) {
            is("promise " + number + " is tested", named[number] ? 1 : 0, 1);
        }
        end();
    }

    /** What a program prints. */
    static String printed(Runnable program) {
        PrintStream out = System.out;
        ByteArrayOutputStream bytes = new ByteArrayOutputStream();
        System.setOut(new PrintStream(bytes, true));
        program.run();
        System.setOut(out);
        return bytes.toString().replace(System.lineSeparator(), "\n");
    }

    static void tell(Strawless x, String text) {
        x.wipe();
        for (int i = 0; i < text.length(); i++) {
            x.write(text.charAt(i));
        }
    }

    static Strawless of(String text) {
        Strawless x = new Strawless();
        tell(x, text);
        if (x.pit() < 0) {
            throw new IllegalStateException(text + " is no pit");
        }
        return x;
    }

    /** A pit whose hands have these tasks, hand 0 first. */
    static Strawless sent(String text, int... tasks) {
        Strawless x = of(text);
        for (int hand = 0; hand < tasks.length; hand++) {
            if (tasks[hand] != 0) {
                x.send(hand, tasks[hand]);
            }
        }
        return x;
    }

    static void days(Strawless x, int many) {
        for (int n = 0; n < many; n++) {
            x.day();
        }
    }

    /** A wall of the courses that a text tells, the lowest first: S or H. */
    static Strawless wall(String courses) {
        Strawless x = of("B0H20F08F08");
        for (char course : courses.toCharArray()) {
            if (course == 'S') {
                x.send(0, x.field(0, 1) > 0 ? 2 : 3);
                x.day();
            }
            x.send(0, 1);
            x.day();
            if (x.lay(course == 'S' ? 1 : 0) < 0) {
                throw new IllegalStateException("no wall " + courses);
            }
        }
        return x;
    }

    /** The courses of a wall as a text like that for wall. */
    static String coursesOf(int high, int sound) {
        StringBuilder b = new StringBuilder();
        for (int course = 0; course < high; course++) {
            b.append((sound >> course & 1) == 1 ? 'S' : 'H');
        }
        return b.toString();
    }

    static int bitsOf(String courses) {
        int bits = 0;
        for (int course = 0; course < courses.length(); course++) {
            bits |= courses.charAt(course) == 'S' ? 1 << course : 0;
        }
        return bits;
    }

    /** All that acts change. */
    static String printOfActs(Strawless x) {
        StringBuilder b = new StringBuilder();
        for (int what = 3; what <= 11; what++) {
            b.append(' ').append(x.about(what));
        }
        b.append(" tasks");
        int hands = x.about(0);
        for (int hand = 0; hand < hands; hand++) {
            b.append(' ').append(x.hand(hand, 2));
        }
        b.append(" straws");
        int fields = x.about(1);
        for (int field = 0; field < fields; field++) {
            b.append(' ').append(x.field(field, 1));
        }
        return b.toString();
    }

    /** All that the face tells without changing anything (the seed is put back). */
    static String print(Strawless x) {
        StringBuilder b = new StringBuilder("acts").append(printOfActs(x)).append(" about");
        for (int what : new int[] {0, 1, 2, 12, 13}) {
            b.append(' ').append(x.about(what));
        }
        b.append(" fault ").append(x.fault()).append(" hands");
        int hands = x.about(0);
        for (int hand = 0; hand < hands; hand++) {
            b.append(' ').append(x.hand(hand, 0)).append(x.hand(hand, 1)).append(x.hand(hand, 3));
        }
        b.append(" fields");
        int fields = x.about(1);
        for (int field = 0; field < fields; field++) {
            b.append(' ').append(x.field(field, 0));
        }
        b.append(" seen");
        for (int n = 1; n <= 8; n++) {
            b.append(' ').append(x.courses(n, 0)).append('/').append(x.courses(n, 1)).append('/').append(x.courses(n, 2));
        }
        long seed = x.seed(0);
        x.seed(seed);
        return b.append(" seed ").append(seed).toString();
    }

    /** Like print, with all that can be undone; what was done is undone behind it. */
    static String printToTheGround(Strawless x) {
        StringBuilder b = new StringBuilder(print(x));
        for (int n = 0; n < 20 && x.undo() >= 0; n++) {
            b.append("\n  undone:").append(printOfActs(x));
        }
        return b.toString();
    }

    /** Like printToTheGround, with what was kept and what the text makes; some 400 calls, and nothing is as it was. */
    static String printAll(Strawless x) {
        StringBuilder b = new StringBuilder(printToTheGround(x));
        for (int slot = 0; slot < 2; slot++) {
            b.append("\n  kept in ").append(slot).append(": ").append(x.again(slot)).append(printOfActs(x));
        }
        return b.append("\n  pit ").append(x.pit()).append(printOfActs(x)).toString();
    }
}
