import java.lang.reflect.InvocationTargetException;
import java.lang.reflect.Method;
import java.util.ArrayList;
import java.util.List;

/**
 * Each call with its smallest and largest arguments and the first ones that are not allowed, all with all, and with the
 * smallest and largest int, in rows of many kinds: it throws the exception that the document names first, or none; a
 * call that throws changes nothing, nor does one that asks.
 */
public final class RefusalTest extends Checks {
    private static final String NOTHING = "nothing";

    /** Each method, and what its arguments are. */
    private static final String[] CALLS = {
        "area pond area", "gate pond is", "cover pan is", "pass days force force rain", "skim pond", "drain pond",
        "pump pond pond much", "family", "right family pan twelfths", "harvest pan is", "flower pan", "wash family",
        "sell family salt price", "ofPond pond what10", "ofFamily family what5", "rightOf family pan", "tide dayOfTide",
        "many what17", "meanStrength", "crustIn pan force force", "bestGates fewDays force force",
        "wouldBe pan is family", "tideOn tide is", "digest"};
    private static final List<String> ASKING = List.of("ofPond", "ofFamily", "rightOf", "tide", "many", "meanStrength",
            "crustIn", "bestGates", "wouldBe", "tideOn", "digest");

    public static void main(String[] args) {
        runAll(RefusalTest.class);
    }

    // ---- the rows, with what is to be known of them

    private static final class Kind {
        Made made;
        int day;
        int tide;
        int families;
        final int[] brine = new int[8];
        final int[] crust = new int[8];
        final boolean[] wasHarvested = new boolean[8];
        final boolean[] letsFlowers = new boolean[8];
        /** RIGHTS in the PAN 5 of each FAMILY; there are none in the others. */
        final int[] rights = new int[6];
        final int[] heap = new int[6];

        Kind(int day, int tide, Made made) {
            this.day = day;
            this.tide = tide;
            this.made = made;
        }
    }

    private static void newRow() {
        ask(new Kind(0, 9, SaltRow::new));
    }

    private static void day0WithTwoFamilies() {
        Kind kind = new Kind(0, 9, RefusalTest::twoFamilies);
        kind.families = 2;
        kind.rights[0] = 7;
        kind.rights[1] = 5;
        ask(kind);
    }

    private static SaltRow twoFamilies() {
        SaltRow x = new SaltRow();
        x.family();
        x.family();
        x.right(0, 5, 7);
        x.right(1, 5, 5);
        return x;
    }

    private static void day1WithBrine() {
        Kind kind = new Kind(1, 8, Checks::withSea);
        kind.brine[0] = 60;
        ask(kind);
    }

    private static void lowTideWithSixFamilies() {
        Kind kind = new Kind(7, 2, RefusalTest::sixFamilies);
        kind.families = 6;
        kind.brine[0] = 40;
        kind.brine[7] = 20;
        ask(kind);
    }

    private static SaltRow sixFamilies() {
        SaltRow x = withSea();
        x.pump(0, 7, 20);
        x.pass(6, 0, 0, 0);
        for (int k = 0; k < 6; k++) {
            x.family();
        }
        return x;
    }

    private static void crustToHarvest() {
        Kind kind = new Kind(61, 4, () -> withFamily(1, 11));
        kind.families = 1;
        kind.rights[0] = 11;
        kind.brine[5] = 1;
        kind.crust[5] = 1500;
        ask(kind);
    }

    private static void harvestedThisDay() {
        Kind kind = new Kind(61, 4, RefusalTest::harvested);
        kind.families = 1;
        kind.rights[0] = 11;
        kind.brine[5] = 1;
        kind.crust[5] = 1300;
        kind.wasHarvested[5] = true;
        kind.heap[0] = 165;
        ask(kind);
    }

    private static SaltRow harvested() {
        SaltRow x = withFamily(1, 11);
        x.harvest(5, false);
        return x;
    }

    private static void flowersToTake() {
        Kind kind = new Kind(62, 3, RefusalTest::inFlower);
        kind.families = 1;
        kind.rights[0] = 12;
        kind.brine[5] = 1;
        kind.crust[5] = 1500;
        kind.letsFlowers[5] = true;
        ask(kind);
    }

    private static SaltRow inFlower() {
        SaltRow x = withFamily(1, 12);
        x.pass(1, 6, 2, 0);
        return x;
    }

    private static void flowersTakenThisDay() {
        Kind kind = new Kind(62, 3, RefusalTest::flowersTaken);
        kind.families = 1;
        kind.rights[0] = 12;
        kind.brine[5] = 1;
        kind.crust[5] = 1500;
        kind.letsFlowers[5] = true;
        kind.wasHarvested[5] = true;
        kind.heap[0] = 3;
        ask(kind);
    }

    private static SaltRow flowersTaken() {
        SaltRow x = inFlower();
        x.flower(5);
        return x;
    }

    private static void day4971() {
        ask(new Kind(4971, 8, () -> emptyOn(4971)));
    }

    private static void day5000() {
        ask(new Kind(5000, 7, () -> emptyOn(5000)));
    }

    // ---- what is called

    private static int[] values(String argument) {
        switch (argument) {
            case "pond":
                return new int[] {-1, 0, 5, 7, 8};
            case "pan":
                return new int[] {-1, 4, 5, 7, 8};
            case "family":
                return new int[] {-1, 0, 1, 2, 5, 6};
            case "is":
                return new int[] {0, 1};
            case "area":
                return new int[] {0, 1, 9, 10};
            case "days":
                return new int[] {0, 1, 29, 30, 31};
            case "fewDays":
                return new int[] {0, 1, 9, 10};
            case "force":
                return new int[] {-1, 0, 9, 10};
            case "rain":
                return new int[] {-1, 0, 40, 41};
            case "much":
                return new int[] {-1, 0, 1, 2, 20, 21, 40, 41, 60, 61};
            case "twelfths":
                return new int[] {-1, 0, 1, 5, 6, 7, 8, 12, 13};
            case "salt":
                return new int[] {-1, 0, 1, 3, 4, 165, 166};
            case "price":
                return new int[] {0, 1, 99, 100};
            case "what10":
                return new int[] {-1, 0, 10, 11};
            case "what5":
                return new int[] {-1, 0, 5, 6};
            case "what17":
                return new int[] {-1, 0, 17, 18};
            case "dayOfTide":
                return new int[] {-1, 0, 9999, 10000};
            default:
                return new int[] {-1, 0, 20, 21};
        }
    }

    private static void ask(Kind kind) {
        String before = everything(kind.made.make());
        for (String call : CALLS) {
            String[] parts = call.split(" ");
            for (int[] with : all(parts)) {
                askOnce(kind, parts, with, before);
            }
        }
    }

    /** All with all; and the smallest and largest int for each, with others that are allowed (if there is a FAMILY). */
    private static List<int[]> all(String[] parts) {
        List<int[]> all = new ArrayList<>();
        all.add(new int[parts.length - 1]);
        for (int k = 1; k < parts.length; k++) {
            List<int[]> more = new ArrayList<>();
            for (int[] first : all) {
                for (int value : values(parts[k])) {
                    more.add(withOther(first, k - 1, value));
                }
            }
            all = more;
        }
        for (int k = 1; k < parts.length; k++) {
            if (!parts[k].equals("is")) {
                all.add(withOther(allowed(parts), k - 1, LEAST));
                all.add(withOther(allowed(parts), k - 1, MOST));
            }
        }
        return all;
    }

    private static int[] withOther(int[] first, int place, int value) {
        int[] next = first.clone();
        next[place] = value;
        return next;
    }

    private static int[] allowed(String[] parts) {
        int[] all = new int[parts.length - 1];
        for (int k = 0; k < all.length; k++) {
            switch (parts[k + 1]) {
                case "pond":
                    all[k] = k == 0 ? 0 : 7;
                    break;
                case "pan":
                    all[k] = 5;
                    break;
                case "family":
                    all[k] = 0;
                    break;
                default:
                    all[k] = 1;
            }
        }
        return all;
    }

    private static void askOnce(Kind kind, String[] parts, int[] with, String before) {
        SaltRow x = kind.made.make();
        String told = parts[0] + java.util.Arrays.toString(with);
        String want = refusal(parts[0], with, kind);
        due(told + " throws", () -> thrown(x, parts, with), want);
        if (!want.equals(NOTHING) || ASKING.contains(parts[0])) {
            due(told + " changes nothing", () -> everything(x), before);
        }
    }

    private static String thrown(SaltRow x, String[] parts, int[] with) throws IllegalAccessException {
        Object[] arguments = new Object[with.length];
        for (int k = 0; k < with.length; k++) {
            if (parts[k + 1].equals("is")) {
                arguments[k] = with[k] == 1;
            } else {
                arguments[k] = with[k];
            }
        }
        try {
            named(parts[0]).invoke(x, arguments);
            return NOTHING;
        } catch (InvocationTargetException e) {
            return e.getCause().getClass().getSimpleName();
        }
    }

    private static Method named(String name) {
        for (Method method : SaltRow.class.getDeclaredMethods()) {
            if (method.getName().equals(name)) {
                return method;
            }
        }
        throw new IllegalStateException(name);
    }

    // ---- what is due

    private static boolean in(int x, int from, int to) {
        return from <= x && x <= to;
    }

    /** The rows of the document that begin with "Throws", in their order: the first that applies. */
    private static String refusal(String call, int[] a, Kind kind) {
        if (!isThere(call, a, kind)) {
            return INDEX;
        }
        if (!isAllowed(call, a)) {
            return ARGUMENT;
        }
        return canBeDone(call, a, kind) ? NOTHING : STATE;
    }

    private static boolean isThere(String call, int[] a, Kind kind) {
        switch (call) {
            case "area": case "gate": case "skim": case "drain": case "ofPond":
                return in(a[0], 0, 7);
            case "pump":
                return in(a[0], 0, 7) && in(a[1], 0, 7);
            case "cover": case "harvest": case "flower": case "crustIn":
                return in(a[0], 5, 7);
            case "right": case "rightOf":
                return in(a[0], 0, kind.families - 1) && in(a[1], 5, 7);
            case "wash": case "sell": case "ofFamily":
                return in(a[0], 0, kind.families - 1);
            case "wouldBe":
                return in(a[0], 5, 7) && in(a[2], 0, kind.families - 1);
            default:
                return true;
        }
    }

    private static boolean isAllowed(String call, int[] a) {
        switch (call) {
            case "area":
                return in(a[1], 1, 9);
            case "pass":
                return in(a[0], 1, 30) && in(a[1], 0, 9) && in(a[2], 0, 9) && in(a[3], 0, 40);
            case "pump":
                return a[0] != a[1] && a[2] >= 1;
            case "right":
                return in(a[2], 0, 12);
            case "sell":
                return a[1] >= 1 && in(a[2], 1, 99);
            case "ofPond":
                return in(a[1], 0, 10);
            case "ofFamily":
                return in(a[1], 0, 5);
            case "tide":
                return in(a[0], 0, 9999);
            case "many":
                return in(a[0], 0, 17);
            case "crustIn":
                return in(a[1], 0, 9) && in(a[2], 0, 9);
            case "bestGates":
                return in(a[0], 1, 9) && in(a[1], 0, 9) && in(a[2], 0, 9);
            case "tideOn":
                return in(a[0], 0, 20);
            default:
                return true;
        }
    }

    private static boolean canBeDone(String call, int[] a, Kind kind) {
        switch (call) {
            case "area":
                return kind.day == 0;
            case "pass":
                return kind.day + a[0] <= 5000;
            case "drain":
                return kind.brine[a[0]] > 0 && kind.tide <= 4;
            case "pump":
                return kind.brine[a[0]] >= a[2];
            case "family":
                return kind.families < 6;
            case "right":
                return a[1] != 5 || othersIn5(kind, a[0]) + a[2] <= 12;
            case "harvest":
                return kind.crust[a[0]] > 0 && !kind.wasHarvested[a[0]];
            case "flower":
                return kind.letsFlowers[a[0]] && !kind.wasHarvested[a[0]];
            case "wash":
                return kind.heap[a[0]] > 0;
            case "sell":
                return kind.heap[a[0]] >= a[1];
            default:
                return true;
        }
    }

    private static int othersIn5(Kind kind, int family) {
        int sum = 0;
        for (int k = 0; k < kind.families; k++) {
            sum += k == family ? 0 : kind.rights[k];
        }
        return sum;
    }

    // ---- all that can be told from the outside

    /** What is asked, digest() among it; then some calls that tell what can't be asked, as the latest SUN and WIND. */
    private static String everything(SaltRow x) {
        StringBuilder all = new StringBuilder();
        for (int what = 0; what < 18; what++) {
            all.append(x.many(what)).append(' ');
        }
        for (int k = 0; k < 8; k++) {
            all.append(pond(x, k));
        }
        for (int k = 0; k < x.many(1); k++) {
            all.append(family(x, k)).append(x.rightOf(k, 5)).append(x.rightOf(k, 6)).append(x.rightOf(k, 7));
        }
        all.append(x.meanStrength()).append(' ').append(x.digest()).append(' ');
        all.append(answer(() -> x.wouldBe(5, true, 0))).append(answer(() -> x.flower(5)));
        all.append(answer(() -> x.harvest(5, false))).append(answer(() -> x.family()));
        all.append(answer(() -> x.right(0, 5, 1))).append(answer(() -> x.wash(0))).append(answer(() -> x.sell(0, 1, 99)));
        all.append(answer(() -> x.pump(0, 1, 1))).append(answer(() -> x.drain(0))).append(answer(() -> x.area(7, 9)));
        all.append(answer(() -> x.pass(1, 9, 0, 9))).append(answer(() -> x.flower(5)));
        return all.append(x.many(5) + x.many(6)).append(' ').append(x.many(14)).toString();
    }
}
