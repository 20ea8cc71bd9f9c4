import java.lang.reflect.InvocationTargetException;
import java.lang.reflect.Method;
import java.lang.reflect.Modifier;
import java.util.ArrayList;
import java.util.Arrays;
import java.util.Comparator;
import java.util.List;
import java.util.concurrent.Callable;

/**
 * What the tests have in common: how an answer is held against the one that is due, and rows to begin with. No test
 * asks an object more than 512 times, as nothing is promised of it behind that.
 */
abstract class Checks {
    static final String INDEX = "IndexOutOfBoundsException";
    static final String ARGUMENT = "IllegalArgumentException";
    static final String STATE = "IllegalStateException";
    static final int NONE = -1;
    static final int LEAST = Integer.MIN_VALUE;
    static final int MOST = Integer.MAX_VALUE;

    private static int wrong = 0;
    private static int asked = 0;
    private static String test = "";

    // ---- the ways to ask

    static void due(String what, Callable<?> call, Object want) {
        asked++;
        String got = answer(call);
        if (!got.equals(String.valueOf(want))) {
            wrong++;
            System.out.println(test + what + " answered " + got + ", due is " + want);
        }
    }

    static String answer(Callable<?> call) {
        try {
            return String.valueOf(call.call());
        } catch (Exception e) {
            return e.getClass().getSimpleName();
        }
    }

    /** The call throws so, and the object's checksum, of nearly all that can be asked, is as before. */
    static void refused(String what, SaltRow x, Callable<?> call, String exception) {
        String before = inShort(x);
        due(what, call, exception);
        due(what + " changes nothing", () -> inShort(x), before);
    }

    /** The call answers so, and the object's checksum is as before. */
    static void unchanged(String what, SaltRow x, Callable<?> call, Object want) {
        refused(what, x, call, String.valueOf(want));
    }

    private static String inShort(SaltRow x) {
        return x.digest() + " " + x.meanStrength();
    }

    /** Runs each static method without arguments that answers nothing, by its name, and ends the program. */
    static void runAll(Class<?> of) {
        Method[] all = of.getDeclaredMethods();
        Arrays.sort(all, Comparator.comparing(Method::getName));
        int tests = 0;
        for (Method method : all) {
            boolean isTest = Modifier.isStatic(method.getModifiers()) && !method.isSynthetic()
                    && method.getParameterCount() == 0 && method.getReturnType() == void.class;
            if (isTest) {
                tests++;
                run(method);
            }
        }
        end(tests);
    }

    private static void run(Method method) {
        test = method.getName() + ": ";
        int before = asked;
        try {
            method.setAccessible(true);
            method.invoke(null);
        } catch (InvocationTargetException e) {
            wrong++;
            System.out.println(test + "threw " + e.getCause());
        } catch (IllegalAccessException e) {
            wrong++;
            System.out.println(test + "can't be run");
        }
        if (asked == before) {
            wrong++;
            System.out.println(test + "asked nothing");
        }
    }

    private static void end(int tests) {
        System.out.println(wrong == 0 ? tests + " tests: " + asked + " answers are as due"
                : wrong + " of " + asked + " answers are not as due");
        if (wrong != 0 || tests == 0) {
            System.exit(1);
        }
    }

    // ---- what an object answers

    static String pond(SaltRow x, int pond) {
        return values(11, what -> x.ofPond(pond, what));
    }

    static String family(SaltRow x, int family) {
        return values(6, what -> x.ofFamily(family, what));
    }

    interface Asked {
        int of(int what);
    }

    static String values(int count, Asked asked) {
        List<Integer> all = new ArrayList<>();
        for (int what = 0; what < count; what++) {
            all.add(asked.of(what));
        }
        return all.toString();
    }

    // ---- rows to begin with

    interface Made {
        SaltRow make();
    }

    /** On DAY 1 the POND 0 has 60 of BRINE, with 1800 of SALT, 120 of GYPSUM, 360 of BITTER; its GATE is shut. */
    static SaltRow withSea() {
        SaltRow x = new SaltRow();
        letSeaIn(x);
        return x;
    }

    /** To an AREA come 20 times of it, on the first DAY. */
    static void letSeaIn(SaltRow x) {
        x.gate(0, true);
        x.pass(1, 0, 0, 0);
        x.gate(0, false);
    }

    /**
     * The PAN 5 has this AREA, and all the BRINE of withSea() dried there to 1: CRUST of SALT 1500 and of DIRT 272
     * (112 of GYPSUM and 160 of BITTER); BRINE 1 with 300, 8 and 200. It is DAY 61, the latest had SUN and WIND of 9.
     * The TIDE is 4; that of DAY 65 is 4, of 66 is 5, of 74 is 5, of 75 is 4.
     */
    static SaltRow withCrust(int area) {
        SaltRow x = new SaltRow();
        x.area(5, area);
        letSeaIn(x);
        x.pump(0, 5, 60);
        x.pass(30, 9, 9, 0);
        x.pass(30, 9, 9, 0);
        return x;
    }

    static SaltRow withFamily(int area, int twelfths) {
        SaltRow x = withCrust(area);
        x.family();
        x.right(0, 5, twelfths);
        return x;
    }

    /** An empty row at this DAY. */
    static SaltRow emptyOn(int day) {
        SaltRow x = new SaltRow();
        for (int left = day; left > 0; left -= 30) {
            x.pass(Math.min(30, left), 0, 0, 0);
        }
        return x;
    }

    /**
     * On DAY 1: BRINE of the SEA, as it is (30 of SALT, 2 of GYPSUM, 6 of BITTER in each), in the PONDS 2 and 3, with
     * these AREAS; their GATES are shut.
     */
    static SaltRow twoPonds(int area2, int brine2, int area3, int brine3) {
        SaltRow x = new SaltRow();
        x.area(0, 9);
        x.area(2, area2);
        x.area(3, area3);
        letSeaIn(x);
        if (brine2 > 0) {
            x.pump(0, 2, brine2);
        }
        if (brine3 > 0) {
            x.pump(0, 3, brine3);
        }
        return x;
    }

    /**
     * On DAY 2, GATES are shut and PANS COVERED: the PAN 7 has 152 of the SEA's BRINE as it is. The POND 1 has some of
     * SALT 15, GYPSUM 1, BITTER 3 each; one (of the first nine) of the POND 2 takes 10, 0 and 2 with it; one (of the
     * first eight) of the POND 3 takes 1, 0 and 0. The PAN 5 has this AREA.
     */
    static SaltRow withMixtures(int area) {
        SaltRow x = new SaltRow();
        for (int pond = 0; pond < 4; pond++) {
            x.area(pond, 9);
        }
        x.area(5, area);
        letSeaIn(x);
        for (int pan = 5; pan < 8; pan++) {
            x.cover(pan, true);
        }
        x.pump(0, 1, 18);
        x.pump(0, 2, 9);
        x.pump(0, 3, 1);
        x.pump(0, 7, 152);
        x.pass(1, 0, 0, 40);
        return x;
    }

    /** Pumps so many of the SEA's BRINE and of those of the PONDS 1, 2 and 3 of withMixtures() into the PAN 5. */
    static SaltRow mixed(int area, int sea, int ofPond1, int ofPond2, int ofPond3) {
        SaltRow x = withMixtures(area);
        if (sea > 0) {
            x.pump(7, 5, sea);
        }
        if (ofPond1 > 0) {
            x.pump(1, 5, ofPond1);
        }
        for (int k = 0; k < ofPond2; k++) {
            x.pump(2, 5, 1);
        }
        for (int k = 0; k < ofPond3; k++) {
            x.pump(3, 5, 1);
        }
        return x;
    }

    /** The same, dried to 1 of BRINE: on DAY 62, with a TIDE of 3. */
    static SaltRow dried(int area, int sea, int ofPond1, int ofPond2, int ofPond3) {
        SaltRow x = mixed(area, sea, ofPond1, ofPond2, ofPond3);
        x.pass(30, 9, 9, 0);
        x.pass(30, 9, 9, 0);
        return x;
    }
}
