import java.util.Random;

/** All promises: runs of calls drawn by a fixed seed, on the class and on the model beside it. */
public final class ModelTest {
    private static final int RUNS = 600;
    /** An object is used for at most 512 calls, and a drawn step makes some fifty at most. */
    private static final int CALLS = 450;
    private static final int[] EXTREMES = {Integer.MIN_VALUE, Integer.MAX_VALUE, -1, -2, 10, 40, 255, 256, 100000, 1 << 30};

    private final Random random;
    private final Strawless x = new Strawless();
    private final Model m = new Model();
    private final int run;
    private final StringBuilder told = new StringBuilder();
    private int calls;
    private boolean wrong;

    private ModelTest(int run) {
        this.run = run;
        random = new Random(run);
    }

    public static void main(String[] args) {
        for (int run = 0; run < RUNS; run++) {
            ModelTest test = new ModelTest(run);
            test.newPit();
            while (test.calls < CALLS && !test.wrong) {
                test.call();
            }
        }
        Due.end();
    }

    private void due(String call, long got, long want) {
        calls++;
        told.append('\n').append(call).append(" = ").append(got);
        Due.is("run " + run + ": " + call, got, want);
        if (got != want && !wrong) {
            wrong = true;
            System.out.println(told);
        }
    }

    /** Mostly from 0 to the highest that is fine, sometimes one beside, seldom far off. */
    private int number(int lowest, int highest) {
        int dice = random.nextInt(40);
        if (dice == 0) {
            return EXTREMES[random.nextInt(EXTREMES.length)];
        }
        if (dice < 3) {
            return dice == 1 ? lowest - 1 : highest + 1;
        }
        return lowest + random.nextInt(Math.max(1, highest - lowest + 1));
    }

    private void writeBoth(int letter) {
        due("write(" + letter + ")", x.write(letter), m.write(letter));
    }

    private void newPit() {
        due("wipe()", x.wipe(), m.wipe());
        StringBuilder text = new StringBuilder("B").append(random.nextInt(10));
        int hands = random.nextInt(6);
        int fields = random.nextInt(4);
        while (hands + fields > 0) {
            if (random.nextInt(hands + fields) < hands) {
                text.append('H').append(1 + random.nextInt(4)).append(random.nextInt(4));
                hands--;
            } else {
                text.append('F').append(random.nextInt(4)).append(random.nextInt(10));
                fields--;
            }
        }
        if (random.nextInt(4) == 0) {
            text.setCharAt(random.nextInt(text.length()), "BHF0123456789b/:".charAt(random.nextInt(16)));
        }
        if (random.nextInt(6) == 0) {
            text.append("BHF0123456789".charAt(random.nextInt(13)));
        }
        for (char c : text.toString().toCharArray()) {
            writeBoth(c);
        }
        due("fault()", x.fault(), m.fault());
        due("pit()", x.pit(), m.pit());
        sendAll();
    }

    private void sendAll() {
        for (int hand = 0; hand < m.about(0); hand++) {
            int task = random.nextInt(2 + m.about(1));
            due("send(" + hand + ", " + task + ")", x.send(hand, task), m.send(hand, task));
        }
    }

    private void call() {
        int dice = random.nextInt(100);
        if (dice < 45) {
            act(random.nextInt(17));
        } else if (dice < 60) {
            ask(random.nextInt(9));
        } else if (dice < 75) {
            seenAndChance(random.nextInt(9));
        } else if (dice < 90) {
            told(random.nextInt(6));
        } else if (dice < 98) {
            slots(random.nextInt(2));
        } else {
            sendAll();
        }
        if (random.nextInt(150) == 0) {
            newPit();
        }
    }

    private void act(int dice) {
        int a = number(0, 4);
        int b = number(0, 4);
        if (dice < 5) {
            due("day()", x.day(), m.day());
        } else if (dice < 8) {
            due("send(" + a + ", " + b + ")", x.send(a, b), m.send(a, b));
        } else if (dice < 10) {
            int n = number(1, 9);
            due("turn(" + n + ")", x.turn(n), m.turn(n));
        } else if (dice < 14) {
            int sound = number(0, 1);
            due("lay(" + sound + ")", x.lay(sound), m.lay(sound));
        } else if (dice < 15) {
            due("rain()", x.rain(), m.rain());
        } else {
            due("undo()", x.undo(), m.undo());
        }
    }

    private int plan() {
        int plan = 0;
        for (int hand = 0; hand < m.about(0); hand++) {
            plan = 10 * plan + random.nextInt(2 + m.about(1));
        }
        return random.nextInt(8) == 0 ? number(0, 100000) : plan;
    }

    private void ask(int dice) {
        int what = number(0, 1);
        if (dice < 3) {
            int plan = plan();
            due("makes(" + plan + ", " + what + ")", x.makes(plan, what), m.makes(plan, what));
        } else if (dice == 3 && random.nextInt(4) == 0) {
            due("best(" + what + ")", x.best(what), m.best(what));
            due("least()", x.least(), m.least());
            due("ask()", x.ask(), m.ask());
        } else if (dice < 5) {
            due("lasts()", x.lasts(), m.lasts());
        } else if (dice < 7) {
            int n = number(1, 8);
            int r = number(0, 3);
            int looks = number(0, (1 << Math.max(0, Math.min(n, 8))) - 1);
            due("spare(" + n + ", " + r + ", " + looks + ", " + what + ")", x.spare(n, r, looks, what), m.spare(n, r, looks, what));
        } else {
            int hand = number(0, Math.max(0, m.about(0) - 1));
            boolean upper = random.nextBoolean();
            due("share(" + hand + ", " + upper + ")", x.share(hand, upper), m.share(hand, upper));
        }
    }

    private void seenAndChance(int dice) {
        int what = number(0, 2);
        int n = number(1, 8);
        if (dice < 2) {
            int r = number(0, 3);
            int course = number(0, random.nextInt(3) == 0 ? 7 : 3);
            due("see(" + r + ", " + course + ", " + what + ")", x.see(r, course, what), m.see(r, course, what));
        } else if (dice == 2 && random.nextInt(4) == 0) {
            due("unsee()", x.unsee(), m.unsee());
        } else if (dice < 5) {
            due("courses(" + n + ", " + what + ")", x.courses(n, what), m.courses(n, what));
        } else if (dice == 5) {
            due("rests(" + what + ")", x.rests(what), m.rests(what));
        } else if (dice < 8) {
            int days = number(1, 6);
            int h = number(0, random.nextBoolean() ? 8 : 3);
            int tenths = number(0, 10);
            boolean upper = random.nextBoolean();
            String call = "chance(" + days + ", " + h + ", " + tenths + ", " + upper + ")";
            due(call, x.chance(days, h, tenths, upper), m.chance(days, h, tenths, upper));
        } else {
            years();
        }
    }

    private void years() {
        if (random.nextInt(3) == 0) {
            long v = random.nextLong();
            due("seed(" + v + ")", x.seed(v), m.seed(v));
        }
        int years = number(1, 20);
        due("years(" + years + ")", x.years(years), m.years(years));
    }

    private void told(int dice) {
        int a = number(0, 4);
        int what = number(0, 13);
        if (dice < 3) {
            due("about(" + what + ")", x.about(what), m.about(what));
        } else if (dice == 3) {
            what = number(0, 3);
            due("hand(" + a + ", " + what + ")", x.hand(a, what), m.hand(a, what));
        } else if (dice == 4) {
            what = number(0, 1);
            due("field(" + a + ", " + what + ")", x.field(a, what), m.field(a, what));
        } else if (random.nextInt(5) == 0) {
            writeBoth(number(0, 255));
            due("fault()", x.fault(), m.fault());
        } else {
            for (int each = 0; each <= 13; each++) {
                due("about(" + each + ")", x.about(each), m.about(each));
            }
        }
    }

    private void slots(int dice) {
        int slot = number(0, 1);
        if (dice == 0) {
            due("keep(" + slot + ")", x.keep(slot), m.keep(slot));
        } else {
            due("again(" + slot + ")", x.again(slot), m.again(slot));
        }
    }
}
