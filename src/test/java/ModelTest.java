import java.lang.reflect.InvocationTargetException;
import java.lang.reflect.Method;
import java.util.Arrays;
import java.util.Map;
import java.util.Random;
import java.util.TreeMap;

/** Random runs of calls (of fixed seeds): SaltRow and a second program, written apart from it, answer the same. */
public final class ModelTest {
    private static final int RUNS = 1200;
    private static final int LONG_RUNS = 100;
    private static final int CALLS = 160;
    private static final int LONG_CALLS = 320;

    /** A method, how often it is called, and from where to where each number is. */
    private static final String[] CALLED = {
        "area 4 0-7 1-9", "gate 20 0-7 b", "cover 5 5-7 b", "pass 60 1-30 0-9 0-9 0-40", "pass 60 1-3 5-9 0-3 0-0",
        "skim 6 0-7", "drain 6 0-7", "pump 30 0-7 0-7 1-60", "pump 10 0-4 5-7 1-300", "family 4", "right 12 0-5 5-7 0-12",
        "harvest 25 5-7 b", "flower 30 5-7", "wash 20 0-5", "sell 25 0-5 1-300 1-99", "sell 10 0-5 1-5 1-99", 
        "ofPond 2 0-7 0-10", "ofFamily 2 0-5 0-5", "rightOf 2 0-5 5-7", "tide 3 0-9999", "many 2 0-17",
        "meanStrength 4", "crustIn 8 5-7 0-9 0-9", "bestGates 2 1-9 0-9 0-9", "wouldBe 10 5-7 b 0-5",
        "tideOn 5 0-20 b", "digest 1"};

    /** What is asked behind each call of a short run. */
    private static final String[] QUESTIONS = {"ofPond 1 0-7 1-9", "ofPond 1 5-7 0-10", "ofFamily 1 0-2 0-5", "many 1 0-17"};

    private static final Map<String, Integer> SEEN = new TreeMap<>();
    private static int wrong = 0;

    public static void main(String[] args) throws Exception {
        for (int run = 0; run < RUNS && wrong < 20; run++) {
            oneRun(run, new Random(run));
        }
        for (int run = RUNS; run < RUNS + LONG_RUNS && wrong < 20; run++) {
            oneRun(run, new Random(run));
        }
        for (String must : new String[] {"flower answers", "harvest answers", "sell answers -2", "sell answers", "wash answers",
            "drain answers", "crustIn answers", "crustIn answers -1", "bestGates answers", "wouldBe answers", "wouldBe answers -1",
            "tideOn answers -1", "pump answers", "skim answers", "pass answers", "pass answers IllegalStateException",
            "sell for 10000 or more"}) {
            if (SEEN.getOrDefault(must, 0) < 30) {
                wrong++;
                System.out.println("too seldom: " + must + ", " + SEEN.getOrDefault(must, 0) + " times");
            }
        }
        if (args.length > 0) {
            System.out.println(SEEN);
        }
        System.out.println(wrong == 0 ? RUNS + LONG_RUNS + " runs are as due" : wrong + " answers are not as due");
        if (wrong != 0) {
            System.exit(1);
        }
    }

    /** No object is asked more than 512 times: some calls to fill it, those that are drawn, and all that it has at the end. */
    private static void oneRun(int run, Random random) throws Exception {
        boolean isLong = run >= RUNS;
        SaltRow is = new SaltRow();
        Model due = new Model();
        fill(run, random, is, due);
        for (int k = 0; k < (isLong ? LONG_CALLS : CALLS); k++) {
            String[] call = (isLong && k % 2 == 0 ? "pass 1 30-30 4-9 0-9 0-0" : CALLED[drawn(random)]).split(" ");
            Object[] with = arguments(call, random);
            fit(call[0], with, isLong, due, random);
            if (!isAnsweredAsDue(call[0], with, is, due, "run " + run + ", call " + k)) {
                return;
            }
            String[] question = QUESTIONS[random.nextInt(QUESTIONS.length)].split(" ");
            if (!isLong && !isAnsweredAsDue(question[0], arguments(question, random), is, due, "run " + run + " behind " + k)) {
                return;
            }
        }
        String gotAll = everything(is);
        String dueAll = everything(due);
        if (!gotAll.equals(dueAll)) {
            wrong++;
            System.out.println("run " + run + ", at the end\n  is  " + gotAll + "\n  due " + dueAll);
        }
    }

    private static boolean isAnsweredAsDue(String call, Object[] with, SaltRow is, Model due, String when) throws Exception {
        String got = answer(is, named(SaltRow.class, call), with);
        String want = answer(due, named(Model.class, call), with);
        boolean isNone = want.equals("-1") || want.equals("-2") || want.endsWith("Exception");
        SEEN.merge(call + " answers" + (isNone ? " " + want : ""), 1, Integer::sum);
        if (call.equals("sell") && want.length() > 4 && want.length() < 12) {
            SEEN.merge("sell for 10000 or more", 1, Integer::sum);
        }
        if (got.equals(want) && due.saltIsMissing() == 0) {
            return true;
        }
        wrong++;
        System.out.println(when + ": " + call + Arrays.toString(with) + " answered " + got + ", due is " + want
                + "; SALT that is missing: " + due.saltIsMissing());
        return false;
    }

    /** Most runs begin with a row in use, so that salt falls soon. */
    private static void fill(int run, Random random, SaltRow is, Model due) {
        if (run % 4 == 0) {
            return;
        }
        for (int pond = 0; pond < 8; pond++) {
            int area = run >= RUNS ? 9 : run % 4 == 1 ? 1 + random.nextInt(9) : pond < 5 ? 9 - pond : 1 + random.nextInt(3);
            is.area(pond, area);
            due.area(pond, area);
            boolean open = random.nextInt(8) > 0;
            is.gate(pond, open);
            due.gate(pond, open);
        }
        for (int k = 0; k < 3; k++) {
            is.family();
            due.family();
        }
        int days = 1 + random.nextInt(30);
        is.pass(days, 3, 1, 0);
        due.pass(days, 3, 1, 0);
    }

    private static int drawn(Random random) {
        int sum = 0;
        for (String call : CALLED) {
            sum += Integer.parseInt(call.split(" ")[1]);
        }
        int left = random.nextInt(sum);
        int k = 0;
        while (left >= Integer.parseInt(CALLED[k].split(" ")[1])) {
            left -= Integer.parseInt(CALLED[k].split(" ")[1]);
            k++;
        }
        return k;
    }

    private static Object[] arguments(String[] call, Random random) {
        Object[] with = new Object[call.length - 2];
        for (int k = 0; k < with.length; k++) {
            String range = call[k + 2];
            if (range.equals("b")) {
                with[k] = random.nextBoolean();
            } else {
                int from = Integer.parseInt(range.split("-")[0]);
                int to = Integer.parseInt(range.split("-")[1]);
                with[k] = number(from, to, random);
                if (call[0].equals("pass") && k == 3 && random.nextInt(4) > 0) {
                    with[k] = 0;
                }
            }
        }
        return with;
    }

    /** In a long run GATES stay open; most of what is SOLD is there. */
    private static void fit(String call, Object[] with, boolean isLong, Model due, Random random) {
        if (call.equals("gate") && isLong) {
            with[1] = true;
        }
        if (call.equals("sell") && random.nextInt(4) > 0 && (int) with[0] >= 0 && (int) with[0] < due.many(1)) {
            with[1] = 1 + random.nextInt(1 + due.ofFamily((int) with[0], 0));
        }
    }

    private static int number(int from, int to, Random random) {
        switch (random.nextInt(150)) {
            case 0:
                return from - 1;
            case 1:
                return to + 1;
            case 2:
                return random.nextInt();
            case 3:
            case 4:
                return from;
            case 5:
            case 6:
                return to;
            default:
                return from + random.nextInt(to - from + 1);
        }
    }

    private static Method named(Class<?> of, String name) {
        for (Method method : of.getDeclaredMethods()) {
            if (method.getName().equals(name)) {
                return method;
            }
        }
        throw new IllegalStateException(name);
    }

    private static String answer(Object of, Method method, Object[] with) throws Exception {
        try {
            return String.valueOf(method.invoke(of, with));
        } catch (InvocationTargetException e) {
            return e.getCause().getClass().getSimpleName();
        }
    }

    private static String everything(SaltRow x) {
        StringBuilder all = new StringBuilder();
        for (int what = 0; what < 18; what++) {
            all.append(x.many(what)).append(' ');
        }
        for (int k = 0; k < 88; k++) {
            all.append(x.ofPond(k / 11, k % 11)).append(' ');
        }
        int families = x.many(1);
        for (int k = 0; k < families * 9; k++) {
            all.append(k % 9 < 6 ? x.ofFamily(k / 9, k % 9) : x.rightOf(k / 9, k % 9 - 1)).append(' ');
        }
        return all.append(x.meanStrength()).toString();
    }

    private static String everything(Model x) {
        StringBuilder all = new StringBuilder();
        for (int what = 0; what < 18; what++) {
            all.append(x.many(what)).append(' ');
        }
        for (int k = 0; k < 88; k++) {
            all.append(x.ofPond(k / 11, k % 11)).append(' ');
        }
        int families = x.many(1);
        for (int k = 0; k < families * 9; k++) {
            all.append(k % 9 < 6 ? x.ofFamily(k / 9, k % 9) : x.rightOf(k / 9, k % 9 - 1)).append(' ');
        }
        return all.append(x.meanStrength()).toString();
    }

    /** The document in one class, with all amounts in tables and the days of what would be in copies of it. */
    static final class Model {
        private static final int AREA = 0, BRINE = 1, SALT = 2, GYPSUM = 3, BITTER = 4, FRESH = 5, CRUST = 6, DIRT = 7;
        private long[][] pond = new long[8][8];
        private boolean[] open = new boolean[8];
        private boolean[] covered = new boolean[8];
        private boolean[] harvested = new boolean[8];
        private long[] fell = new long[8];
        private long[][] heap = new long[6][6];
        private int[][] rights = new int[6][8];
        private int families = 0;
        private int day = 0;
        private int lastSun = 0;
        private int lastWind = 0;
        private long sea = 0, lost = 0, crown = 0, cloister = 0, cloisterDirt = 0, skimmed = 0, works = 0;

        Model() {
            for (long[] p : pond) {
                p[AREA] = 3;
            }
        }

        private Model copy() {
            Model m = new Model();
            for (int k = 0; k < 8; k++) {
                m.pond[k] = pond[k].clone();
            }
            m.open = open.clone();
            m.covered = covered.clone();
            m.day = day;
            return m;
        }

        long saltIsMissing() {
            return many(4) - many(5) - many(6) - many(7) - many(8) - many(9) - many(10) - many(11);
        }

        private static void index(boolean good) {
            if (!good) {
                throw new IndexOutOfBoundsException();
            }
        }

        private static void argument(boolean good) {
            if (!good) {
                throw new IllegalArgumentException();
            }
        }

        private static void state(boolean good) {
            if (!good) {
                throw new IllegalStateException();
            }
        }

        private static boolean in(int x, int from, int to) {
            return from <= x && x <= to;
        }

        private long level(int k) {
            return pond[k][BRINE] / pond[k][AREA];
        }

        private long strength(int k) {
            if (pond[k][BRINE] == 0) {
                return 0;
            }
            long s = (pond[k][SALT] + pond[k][BITTER]) / (5 * pond[k][BRINE]);
            return s > 90 ? 90 : s;
        }

        private static int tideOf(int day) {
            int d = day % 14 - 7;
            return 2 + (d < 0 ? -d : d);
        }

        private void flow(int from, int to, long much) {
            long brine = pond[from][BRINE];
            for (int k = SALT; k <= BITTER; k++) {
                long share = pond[from][k] * much / brine;
                pond[from][k] -= share;
                pond[to][k] += share;
            }
            pond[from][BRINE] -= much;
            pond[to][BRINE] += much;
        }

        private void oneDay(int sun, int wind, int rain) {
            day++;
            lastSun = sun;
            lastWind = wind;
            harvested = new boolean[8];
            fell = new long[8];
            long tide = tideOf(day);
            if (open[0] && 10 * tide > level(0)) {
                long comes = (10 * tide - level(0)) * pond[0][AREA] / 4;
                pond[0][BRINE] += comes;
                pond[0][SALT] += 30 * comes;
                pond[0][GYPSUM] += 2 * comes;
                pond[0][BITTER] += 6 * comes;
                sea += 30 * comes;
            }
            for (int k = 7; k >= 1; k--) {
                if (open[k] && level(k - 1) > level(k)) {
                    flow(k - 1, k, (level(k - 1) - level(k)) * Math.min(pond[k - 1][AREA], pond[k][AREA]) / 2);
                }
            }
            for (int k = 0; k < 8; k++) {
                if (!covered[k]) {
                    pond[k][FRESH] += rain * pond[k][AREA] / 10;
                }
            }
            for (int k = 0; k < 8; k++) {
                long force = pond[k][AREA] * (sun + wind);
                while (force >= 10 && pond[k][FRESH] > 0) {
                    force -= 10;
                    pond[k][FRESH]--;
                }
                long dries = (long) Math.ceil(force * (100 - strength(k)) / 1000.0);
                pond[k][BRINE] -= Math.min(dries, pond[k][BRINE] / 2);
            }
            for (int k = 0; k < 8; k++) {
                long mixes = pond[k][FRESH] - pond[k][FRESH] / 2;
                pond[k][FRESH] -= mixes;
                pond[k][BRINE] += mixes;
                for (long left = 4 * mixes; left > 0 && pond[k][CRUST] > 0; left--) {
                    pond[k][CRUST]--;
                    pond[k][SALT]++;
                }
            }
            for (int k = 0; k < 8; k++) {
                fall(k, GYPSUM, 8, DIRT);
                fell[k] = fall(k, SALT, 300, CRUST);
                fall(k, BITTER, 200, DIRT);
            }
        }

        private long fall(int k, int what, int held, int to) {
            long more = pond[k][what] - held * pond[k][BRINE];
            if (more <= 0) {
                return 0;
            }
            pond[k][what] -= more;
            pond[k][to] += more;
            return more;
        }

        public int area(int k, int area) {
            index(in(k, 0, 7));
            argument(in(area, 1, 9));
            state(day == 0);
            int old = (int) pond[k][AREA];
            pond[k][AREA] = area;
            return old;
        }

        public boolean gate(int k, boolean is) {
            index(in(k, 0, 7));
            boolean old = open[k];
            open[k] = is;
            return old;
        }

        public boolean cover(int k, boolean is) {
            index(in(k, 5, 7));
            boolean old = covered[k];
            covered[k] = is;
            return old;
        }

        public int pass(int days, int sun, int wind, int rain) {
            argument(in(days, 1, 30) && in(sun, 0, 9) && in(wind, 0, 9) && in(rain, 0, 40));
            state(day + days <= 5000);
            long all = 0;
            for (int k = 0; k < days; k++) {
                oneDay(sun, wind, rain);
                all += fell[5] + fell[6] + fell[7];
            }
            return (int) all;
        }

        public int skim(int k) {
            index(in(k, 0, 7));
            long gone = pond[k][FRESH];
            pond[k][FRESH] = 0;
            skimmed += gone;
            return (int) gone;
        }

        public int drain(int k) {
            index(in(k, 0, 7));
            state(pond[k][BRINE] > 0 && tideOf(day) <= 4);
            long gone = pond[k][BRINE];
            lost += pond[k][SALT];
            for (int what = BRINE; what <= BITTER; what++) {
                pond[k][what] = 0;
            }
            return (int) gone;
        }

        public int pump(int from, int to, int much) {
            index(in(from, 0, 7) && in(to, 0, 7));
            argument(from != to && much >= 1);
            state(pond[from][BRINE] >= much);
            flow(from, to, much);
            works -= much / 10 + (much % 10 == 0 ? 0 : 1);
            return (int) strength(to);
        }

        public int family() {
            state(families < 6);
            return families++;
        }

        public int right(int f, int pan, int twelfths) {
            index(in(f, 0, families - 1) && in(pan, 5, 7));
            argument(in(twelfths, 0, 12));
            int old = rights[f][pan];
            rights[f][pan] = twelfths;
            int all = 0;
            for (int[] of : rights) {
                all += of[pan];
            }
            if (all > 12) {
                rights[f][pan] = old;
                throw new IllegalStateException();
            }
            return old;
        }

        private void give(int pan, long salt, long dirt) {
            long saltGone = 0;
            long dirtGone = 0;
            for (int f = 0; f < families; f++) {
                long s = salt * rights[f][pan] / 12;
                long d = dirt * rights[f][pan] / 12;
                heap[f][0] += s;
                heap[f][1] += d;
                heap[f][4] += s;
                saltGone += s;
                dirtGone += d;
            }
            cloister += salt - saltGone;
            cloisterDirt += dirt - dirtGone;
        }

        public int harvest(int pan, boolean isMachine) {
            index(in(pan, 5, 7));
            state(pond[pan][CRUST] > 0 && !harvested[pan]);
            long salt = pond[pan][CRUST];
            if (!isMachine && salt > 200 * pond[pan][AREA]) {
                salt = 200 * pond[pan][AREA];
            }
            long dirt = pond[pan][DIRT] * salt / pond[pan][CRUST];
            pond[pan][CRUST] -= salt;
            pond[pan][DIRT] -= dirt;
            if (isMachine) {
                dirt += 10 * pond[pan][AREA];
            }
            harvested[pan] = true;
            crown += salt / 10;
            give(pan, salt - salt / 10, dirt);
            return (int) salt;
        }

        public int flower(int pan) {
            index(in(pan, 5, 7));
            state(lastSun >= 6 && lastWind <= 2 && strength(pan) >= 55 && !harvested[pan]);
            long salt = Math.min(3 * pond[pan][AREA], pond[pan][SALT]);
            pond[pan][SALT] -= salt;
            harvested[pan] = true;
            give(pan, salt, 0);
            return (int) salt;
        }

        private long purity(int f) {
            return heap[f][0] + heap[f][1] == 0 ? 0 : 100 * heap[f][0] / (heap[f][0] + heap[f][1]);
        }

        public int wash(int f) {
            index(in(f, 0, families - 1));
            state(heap[f][0] > 0);
            heap[f][1] /= 2;
            long kept = heap[f][0] * 19 / 20;
            lost += heap[f][0] - kept;
            heap[f][0] = kept;
            return (int) purity(f);
        }

        public int sell(int f, int salt, int price) {
            index(in(f, 0, families - 1));
            argument(salt >= 1 && in(price, 1, 99));
            state(heap[f][0] >= salt);
            long pure = purity(f);
            if (pure < 90) {
                return -2;
            }
            long coins = (long) salt * price / (pure < 97 ? 20 : 10);
            heap[f][1] -= heap[f][1] * salt / heap[f][0];
            heap[f][0] -= salt;
            heap[f][3] += coins;
            heap[f][5] += salt;
            return (int) coins;
        }

        public int ofPond(int k, int what) {
            index(in(k, 0, 7));
            argument(in(what, 0, 10));
            return (int) (what < 8 ? pond[k][what] : what == 8 ? level(k) : what == 9 ? strength(k) : harvested[k] ? 1 : 0);
        }

        public int ofFamily(int f, int what) {
            index(in(f, 0, families - 1));
            argument(in(what, 0, 5));
            return (int) (what == 2 ? purity(f) : heap[f][what]);
        }

        public int rightOf(int f, int pan) {
            index(in(f, 0, families - 1) && in(pan, 5, 7));
            return rights[f][pan];
        }

        public int tide(int of) {
            argument(in(of, 0, 9999));
            return tideOf(of);
        }

        private long all(int what) {
            long sum = 0;
            for (long[] p : pond) {
                sum += p[what];
            }
            return sum;
        }

        private long heaps(int what) {
            long sum = 0;
            for (long[] h : heap) {
                sum += h[what];
            }
            return sum;
        }

        private static int set(boolean[] of) {
            int set = 0;
            for (int k = 7; k >= 0; k--) {
                set = 2 * set + (of[k] ? 1 : 0);
            }
            return set;
        }

        public int many(int what) {
            argument(in(what, 0, 17));
            long[] all = {day, families, set(open), set(covered), sea, all(SALT), all(CRUST), heaps(0), heaps(5), lost,
                crown, cloister, all(DIRT), cloisterDirt, all(BRINE), all(FRESH), skimmed, works};
            return (int) all[what];
        }

        public double meanStrength() {
            long sum = 0;
            int count = 0;
            for (int k = 0; k < 8; k++) {
                sum += strength(k);
                count += pond[k][BRINE] > 0 ? 1 : 0;
            }
            return count == 0 ? 0 : sum / (double) count;
        }

        public int crustIn(int pan, int sun, int wind) {
            index(in(pan, 5, 7));
            argument(in(sun, 0, 9) && in(wind, 0, 9));
            Model m = copy();
            for (int k = 1; k <= 60; k++) {
                m.oneDay(sun, wind, 0);
                if (m.fell[pan] > 0) {
                    return k;
                }
            }
            return -1;
        }

        public int bestGates(int days, int sun, int wind) {
            argument(in(days, 1, 9) && in(sun, 0, 9) && in(wind, 0, 9));
            long most = -1;
            int best = 256;
            for (int set = 255; set >= 0; set--) {
                Model m = copy();
                for (int k = 0; k < 8; k++) {
                    m.open[k] = (set & 1 << k) != 0;
                }
                for (int k = 0; k < days; k++) {
                    m.oneDay(sun, wind, 0);
                }
                long salt = 0;
                for (int k = 5; k < 8; k++) {
                    salt += m.pond[k][SALT] + m.pond[k][CRUST];
                }
                if (salt >= most) {
                    most = salt;
                    best = set;
                }
            }
            return best;
        }

        public int wouldBe(int pan, boolean isMachine, int f) {
            index(in(pan, 5, 7) && in(f, 0, families - 1));
            if (pond[pan][CRUST] == 0 || harvested[pan]) {
                return -1;
            }
            Model m = copy();
            m.families = families;
            for (int k = 0; k < 6; k++) {
                m.rights[k] = rights[k].clone();
                m.heap[k] = heap[k].clone();
            }
            m.harvest(pan, isMachine);
            return (int) m.purity(f);
        }

        public int tideOn(int tide, boolean isHigh) {
            argument(in(tide, 0, 20));
            for (int d = day; d < day + 14; d++) {
                if (tideOf(d) == tide || tideOf(d) > tide == isHigh) {
                    return d;
                }
            }
            return -1;
        }

        public long digest() {
            long d = 7804;
            for (int what = 0; what < 18; what++) {
                d = d * 31 + many(what);
            }
            for (int k = 0; k < 8; k++) {
                for (int what = 0; what < 11; what++) {
                    d = d * 31 + ofPond(k, what);
                }
            }
            for (int f = 0; f < families; f++) {
                for (int what = 0; what < 6; what++) {
                    d = d * 31 + ofFamily(f, what);
                }
                for (int pan = 5; pan < 8; pan++) {
                    d = d * 31 + rights[f][pan];
                }
            }
            for (int pan = 5; pan < 8; pan++) {
                d = d * 31 + crustIn(pan, 7, 3);
            }
            d = d * 31 + bestGates(3, 6, 2);
            d = d * 31 + tideOn(9, true);
            return d * 31 + tideOn(3, false);
        }
    }
}
