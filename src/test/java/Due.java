/** What the tests share: answers that are due, pits from texts, and a print of all that the face tells. */
final class Due {
    private static int wrong = 0;
    private static int asked = 0;

    private Due() { }

    static void is(String call, long got, long want) {
        asked++;
        if (got != want) {
            wrong++;
            System.out.println(call + " answered " + got + ", due is " + want);
        }
    }

    static void same(String call, String got, String want) {
        asked++;
        if (!got.equals(want)) {
            wrong++;
            System.out.println(call + " left\n  " + got + ", due is\n  " + want);
        }
    }

    static void end() {
        System.out.println(wrong == 0 ? asked + " answers, all as due" : wrong + " of " + asked + " answers are not as due");
        if (wrong != 0 || asked == 0) {
            System.exit(1);
        }
    }

    static void tell(Strawless x, String text) {
        x.wipe();
        for (int i = 0; i < text.length(); i++) {
            x.write(text.charAt(i));
        }
    }

    static Strawless of(String text) {
        Strawless x = new Strawless();
        tell(x, text);
        if (x.pit() < 0) {
            throw new IllegalStateException(text + " is no pit");
        }
        return x;
    }

    /** A wall of the courses that a text tells, the lowest first: S or H. */
    static Strawless wall(String courses) {
        Strawless x = of("B0H20F08F08");
        for (char course : courses.toCharArray()) {
            if (course == 'S') {
                x.send(0, x.field(0, 1) > 0 ? 2 : 3);
                x.day();
            }
            x.send(0, 1);
            x.day();
            if (x.lay(course == 'S' ? 1 : 0) < 0) {
                throw new IllegalStateException("no wall " + courses);
            }
        }
        return x;
    }

    /** All that the face tells without changing anything (the seed is put back). */
    static String print(Strawless x) {
        StringBuilder b = new StringBuilder("about");
        for (int what = 0; what <= 13; what++) {
            b.append(' ').append(x.about(what));
        }
        b.append(" fault ").append(x.fault()).append(" hands");
        for (int hand = 0; hand < x.about(0); hand++) {
            b.append(' ').append(x.hand(hand, 0)).append(x.hand(hand, 1)).append(x.hand(hand, 2)).append(x.hand(hand, 3));
        }
        b.append(" fields");
        for (int field = 0; field < x.about(1); field++) {
            b.append(' ').append(x.field(field, 0)).append(x.field(field, 1));
        }
        b.append(" seen");
        for (int n = 1; n <= 8; n++) {
            b.append(' ').append(x.courses(n, 0)).append('/').append(x.courses(n, 1)).append('/').append(x.courses(n, 2));
        }
        long seed = x.seed(0);
        x.seed(seed);
        return b.append(" seed ").append(seed).toString();
    }

    /** Like print, with all that can be undone; what was done is undone behind it. */
    static String printToTheGround(Strawless x) {
        StringBuilder b = new StringBuilder(print(x));
        for (int n = 0; n < 20 && x.undo() >= 0; n++) {
            b.append("\n  undone: ").append(print(x));
        }
        return b.toString();
    }
}
