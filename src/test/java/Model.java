import java.math.BigInteger;
import java.util.ArrayDeque;
import java.util.ArrayList;
import java.util.Arrays;
import java.util.List;

/**
 * The document told a second time, as slowly and plainly as it can be, to be set beside the class:
 * walls are texts, all orders of hands and all rows of rainy days are gone through one by one.
 */
final class Model {
    private static final class Now {
        int[] task = new int[5];
        int[] straws = new int[3];
        int straw, sound, hollow, turned, blows, day;
        String wall = "";

        Now copy() {
            Now c = new Now();
            c.task = task.clone();
            c.straws = straws.clone();
            c.straw = straw;
            c.sound = sound;
            c.hollow = hollow;
            c.turned = turned;
            c.blows = blows;
            c.day = day;
            c.wall = wall;
            return c;
        }
    }

    private final List<Integer> text = new ArrayList<>();
    private final List<int[]> hands = new ArrayList<>();
    private final List<int[]> fields = new ArrayList<>();
    private final List<int[]> seen = new ArrayList<>();
    private final ArrayDeque<Now> acts = new ArrayDeque<>();
    private final Now[] slots = new Now[2];
    private int count;
    private Now now = new Now();
    private long seed;

    int write(int letter) {
        if (letter < 0 || letter > 255) {
            return -2;
        }
        if (text.size() == 40) {
            return -4;
        }
        text.add(letter);
        return text.size();
    }

    int wipe() {
        int n = text.size();
        text.clear();
        return n;
    }

    private String textTo(int length) {
        StringBuilder b = new StringBuilder();
        for (int n = 0; n < length; n++) {
            b.append((char) (int) text.get(n));
        }
        return b.toString();
    }

    private static boolean isPit(String s) {
        if (!s.matches("B[0-9](H[1-4][0-3]|F[0-3][0-9])*")) {
            return false;
        }
        return s.chars().filter(c -> c == 'H').count() <= 5 && s.chars().filter(c -> c == 'F').count() <= 3;
    }

    /** Whether some text that begins so is a pit. */
    private static boolean canBecomePit(String s) {
        for (String end : new String[] {"", "0", "00", "B0", "10", "1"}) {
            if (isPit(s + end)) {
                return true;
            }
        }
        return false;
    }

    int fault() {
        for (int n = 1; n <= text.size(); n++) {
            if (!canBecomePit(textTo(n))) {
                return n - 1;
            }
        }
        return isPit(textTo(text.size())) ? -9 : text.size();
    }

    int pit() {
        if (fault() != -9) {
            return -3;
        }
        String s = textTo(text.size());
        count = s.charAt(1) - '0';
        hands.clear();
        fields.clear();
        now = new Now();
        for (int n = 2; n < s.length(); n += 3) {
            int[] part = {s.charAt(n + 1) - '0', s.charAt(n + 2) - '0'};
            if (s.charAt(n) == 'H') {
                hands.add(part);
            } else {
                now.straws[fields.size()] = part[1];
                fields.add(part);
            }
        }
        acts.clear();
        Arrays.fill(slots, null);
        return 10 * hands.size() + fields.size();
    }

    int about(int what) {
        int bits = 0;
        for (int n = 0; n < now.wall.length(); n++) {
            bits += now.wall.charAt(n) == 'S' ? 1 << n : 0;
        }
        int[] all = {hands.size(), fields.size(), count, now.straw, now.sound, now.hollow, now.turned, now.wall.length(), bits,
            now.blows, now.day, acts.size(), seen.size(), text.size()};
        return what < 0 || what > 13 ? -2 : all[what];
    }

    private int moulds(int hand) {
        int[] less = {0, 2, -1, -99};
        return Math.max(0, hands.get(hand)[0] + less[hands.get(hand)[1]]);
    }

    int hand(int hand, int what) {
        if (hand < 0 || hand >= hands.size()) {
            return -1;
        }
        if (what < 0 || what > 3) {
            return -2;
        }
        return new int[] {hands.get(hand)[0], hands.get(hand)[1], now.task[hand], moulds(hand)}[what];
    }

    int field(int field, int what) {
        if (field < 0 || field >= fields.size()) {
            return -1;
        }
        return what == 0 ? fields.get(field)[0] : what == 1 ? now.straws[field] : -2;
    }

    /** A day passes there; what it moulded: in all, sound. */
    private int[] pass(Now there) {
        for (int hand = 0; hand < hands.size(); hand++) {
            int field = there.task[hand] - 2;
            if (field >= 0) {
                int could = hands.get(hand)[0] - fields.get(field)[0] - (hands.get(hand)[1] == 2 ? 1 : 0);
                while (could > 0 && there.straws[field] > 0) {
                    could--;
                    there.straws[field]--;
                    there.straw++;
                }
            }
        }
        int bricks = 0;
        for (int hand = 0; hand < hands.size(); hand++) {
            bricks += there.task[hand] == 1 ? moulds(hand) : 0;
        }
        bricks = bricks > 9 ? 9 : bricks;
        int sound = 0;
        for (int n = 0; n < bricks; n++) {
            if (there.straw > 0) {
                there.straw--;
                there.sound++;
                sound++;
            } else {
                there.hollow++;
            }
        }
        for (int counted = bricks + there.turned; counted < count; counted++) {
            there.blows++;
        }
        there.turned = 0;
        there.day++;
        return new int[] {bricks, sound};
    }

    private void act() {
        acts.addLast(now.copy());
        if (acts.size() > 14) {
            acts.removeFirst();
        }
    }

    int day() {
        act();
        return pass(now)[0];
    }

    int send(int hand, int task) {
        if (hand < 0 || hand >= hands.size()) {
            return -1;
        }
        if (task < 0 || task > 1 + fields.size()) {
            return -2;
        }
        int had = now.task[hand];
        if (had == task) {
            return -3;
        }
        act();
        now.task[hand] = task;
        return had;
    }

    int turn(int n) {
        if (n < 1 || n > 9) {
            return -2;
        }
        if (now.turned + n > now.sound + now.hollow) {
            return -3;
        }
        act();
        return now.turned += n;
    }

    int lay(int sound) {
        if (sound != 0 && sound != 1) {
            return -2;
        }
        if (now.wall.length() == 8) {
            return -4;
        }
        if ((sound == 1 ? now.sound : now.hollow) < 2) {
            return -3;
        }
        act();
        if (sound == 1) {
            now.sound -= 2;
        } else {
            now.hollow -= 2;
        }
        now.wall += sound == 1 ? "S" : "H";
        return now.wall.length();
    }

    int rain() {
        act();
        now.wall = now.wall.replaceFirst("H", "");
        return now.wall.length();
    }

    int undo() {
        if (acts.isEmpty()) {
            return -3;
        }
        now = acts.removeLast();
        return acts.size();
    }

    private int[] tasksOf(int plan) {
        String s = plan == 0 ? "" : String.valueOf(plan);
        if (plan < 0 || s.length() > hands.size()) {
            return null;
        }
        s = "00000".substring(5 - hands.size() + s.length()) + s;
        int[] tasks = new int[5];
        for (int hand = 0; hand < s.length(); hand++) {
            tasks[hand] = s.charAt(hand) - '0';
            if (tasks[hand] > 1 + fields.size()) {
                return null;
            }
        }
        return tasks;
    }

    private int[] madeBy(int[] tasks) {
        Now there = now.copy();
        there.task = tasks.clone();
        return pass(there);
    }

    int makes(int plan, int what) {
        int[] tasks = tasksOf(plan);
        if (tasks == null || what < 0 || what > 1) {
            return -2;
        }
        return madeBy(tasks)[what];
    }

    /** The best plan, its sound bricks, the fewest hands, the most that are all sound. */
    private int[] overAllPlans() {
        int end = (int) Math.pow(10, hands.size());
        int best = -9;
        int bestSound = -9;
        int bestBusy = 99;
        int least = 99;
        int ask = 0;
        for (int plan = 0; plan < end; plan++) {
            int[] tasks = tasksOf(plan);
            if (tasks == null) {
                continue;
            }
            int[] made = madeBy(tasks);
            int busy = (int) Arrays.stream(tasks).filter(t -> t != 0).count();
            if (made[0] == made[1]) {
                ask = Math.max(ask, made[0]);
            }
            if (made[0] >= count) {
                least = Math.min(least, busy);
                if (made[1] > bestSound || made[1] == bestSound && busy < bestBusy) {
                    best = plan;
                    bestSound = made[1];
                    bestBusy = busy;
                }
            }
        }
        return new int[] {best, bestSound, least == 99 ? -9 : least, ask};
    }

    int best(int what) {
        return what < 0 || what > 1 ? -2 : overAllPlans()[what];
    }

    int least() {
        return overAllPlans()[2];
    }

    int ask() {
        return overAllPlans()[3];
    }

    int lasts() {
        Now there = now.copy();
        int days = 0;
        while (days < 9 && pass(there)[1] >= count) {
            days++;
        }
        return days;
    }

    private static String wallOf(int n, int bits) {
        StringBuilder b = new StringBuilder();
        for (int course = 0; course < n; course++) {
            b.append((bits >> course & 1) == 1 ? 'S' : 'H');
        }
        return b.toString();
    }

    private static char courseOf(String wall, int rains, int course) {
        String left = wall;
        for (int n = 0; n < rains; n++) {
            left = left.replaceFirst("H", "");
        }
        return course < left.length() ? left.charAt(course) : '-';
    }

    int spare(int n, int r, int looks, int what) {
        if (n < 1 || n > 8 || r < 0 || r > 3 || looks < 0 || looks > (1 << n) - 1 || what < 0 || what > 1) {
            return -2;
        }
        for (int sound = 0; sound <= n; sound++) {
            for (int bits = 0; bits < 1 << n; bits++) {
                boolean good = Integer.bitCount(bits) == sound;
                for (int course = 0; course < n; course++) {
                    good &= (looks >> course & 1) == 0 || courseOf(wallOf(n, bits), r, course) == 'S';
                }
                if (good) {
                    return what == 0 ? sound : bits;
                }
            }
        }
        return -9;
    }

    /** The gain of a hand in every order of those that are still to come, added up. */
    private int gains(int hand, List<Integer> come) {
        if (come.size() == hands.size()) {
            return 0;
        }
        int sum = 0;
        for (int next = 0; next < hands.size(); next++) {
            if (come.contains(next)) {
                continue;
            }
            int before = soundOf(come);
            come.add(next);
            int left = 1;
            for (int n = 2; n <= hands.size() - come.size(); n++) {
                left *= n;
            }
            sum += next == hand ? left * (soundOf(come) - before) : gains(hand, come);
            come.remove(come.size() - 1);
        }
        return sum;
    }

    private int soundOf(List<Integer> come) {
        int[] tasks = new int[5];
        for (int hand : come) {
            tasks[hand] = now.task[hand];
        }
        return madeBy(tasks)[1];
    }

    private static int fraction(long above, long below, boolean upper) {
        BigInteger a = BigInteger.valueOf(above);
        BigInteger b = BigInteger.valueOf(below);
        return (upper ? a : b).divide(a.gcd(b)).intValue();
    }

    int share(int hand, boolean upper) {
        if (hand < 0 || hand >= hands.size()) {
            return -1;
        }
        int[] orders = {1, 1, 2, 6, 24, 120};
        return fraction(gains(hand, new ArrayList<>()), orders[hands.size()], upper);
    }

    int see(int r, int course, int how) {
        if (r < 0 || r > 3 || course < 0 || course > 7 || how < 0 || how > 2) {
            return -2;
        }
        if (seen.size() == 6) {
            return -4;
        }
        seen.add(new int[] {r, course, how});
        return seen.size();
    }

    int unsee() {
        int n = seen.size();
        seen.clear();
        return n;
    }

    int courses(int n, int what) {
        if (n < 1 || n > 8 || what < 0 || what > 2) {
            return -2;
        }
        List<String> walls = new ArrayList<>();
        for (int bits = 0; bits < 1 << n; bits++) {
            String wall = wallOf(n, bits);
            if (seen.stream().allMatch(s -> courseOf(wall, s[0], s[1]) == "HS-".charAt(s[2]))) {
                walls.add(wall);
            }
        }
        if (what == 0 || walls.isEmpty()) {
            return what == 0 ? walls.size() : -9;
        }
        int bits = 0;
        for (int course = 0; course < n; course++) {
            int at = course;
            bits += walls.stream().allMatch(w -> w.charAt(at) == (what == 1 ? 'S' : 'H')) ? 1 << course : 0;
        }
        return bits;
    }

    private static int overseer(int c, int m) {
        return c + m - (m < c ? 3 * (c - m) : 0);
    }

    private static int foreman(int c, int m) {
        return 9 - m - (m < c ? 2 * (c - m) : 0);
    }

    int rests(int what) {
        if (what < 0 || what > 1) {
            return -2;
        }
        int most = madeBy(now.task)[0];
        List<Integer> pairs = new ArrayList<>();
        for (int pair = 0; pair < 100; pair++) {
            int c = pair / 10;
            int m = pair % 10;
            boolean still = m <= most;
            for (int other = 0; other <= 9; other++) {
                still &= overseer(other, m) <= overseer(c, m);
                still &= other > most || foreman(c, other) <= foreman(c, m);
            }
            if (still) {
                pairs.add(pair);
            }
        }
        return what == 0 ? pairs.size() : pairs.isEmpty() ? -9 : pairs.get(0);
    }

    int chance(int n, int h, int x, boolean upper) {
        if (n < 1 || n > 6 || h < 0 || h > 8 || x < 0 || x > 10) {
            return -2;
        }
        long above = 0;
        long below = 1;
        for (int day = 0; day < n; day++) {
            below *= 10;
        }
        for (int rainy = 0; rainy < 1 << n; rainy++) {
            String wall = now.wall;
            long weight = 1;
            for (int day = 0; day < n; day++) {
                boolean rains = (rainy >> day & 1) == 1;
                wall = rains ? wall.replaceFirst("H", "") : wall;
                weight *= rains ? x : 10 - x;
            }
            above += wall.length() >= h ? weight : 0;
        }
        return fraction(above, below, upper);
    }

    long seed(long v) {
        long was = seed;
        seed = v;
        return was;
    }

    int years(int m) {
        if (m < 1 || m > 20) {
            return -2;
        }
        Now there = now.copy();
        there.blows = 0;
        BigInteger word = BigInteger.ONE.shiftLeft(64);
        for (int year = 0; year < m; year++) {
            BigInteger x = BigInteger.valueOf(seed).multiply(new BigInteger("6364136223846793005"))
                .add(new BigInteger("1442695040888963407")).mod(word);
            seed = x.longValue();
            int left = x.shiftRight(33).mod(BigInteger.valueOf(30)).intValue();
            if (left / 6 < hands.size() && left % 6 < 2 + fields.size()) {
                there.task[left / 6] = left % 6;
            }
            pass(there);
        }
        return there.blows;
    }

    int keep(int slot) {
        if (slot != 0 && slot != 1) {
            return -1;
        }
        slots[slot] = now.copy();
        return now.day;
    }

    int again(int slot) {
        if (slot != 0 && slot != 1) {
            return -1;
        }
        if (slots[slot] == null) {
            return -3;
        }
        now = slots[slot].copy();
        acts.clear();
        return now.day;
    }
}
