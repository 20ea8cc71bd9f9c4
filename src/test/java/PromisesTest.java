import java.util.ArrayList;
import java.util.List;

/** Each promise of the document by itself, with answers that were worked out by hand from its words. */
public final class PromisesTest extends Checks {
    private static final int[] WRONG_PONDS = {-1, 8, Integer.MIN_VALUE, Integer.MAX_VALUE};
    private static final int[] WRONG_PANS = {4, 8, 0, -1, Integer.MIN_VALUE, Integer.MAX_VALUE};

    public static void main(String[] args) {
        runAll(PromisesTest.class);
    }

    // ---- the promises

    private static void promise1NewObject() {
        SaltRow x = new SaltRow();
        for (int pond = 0; pond < 8; pond++) {
            int it = pond;
            due("1: a new POND", () -> pond(x, it), "[3, 0, 0, 0, 0, 0, 0, 0, 0, 0, 0]");
        }
        for (int what = 0; what <= 17; what++) {
            int it = what;
            due("1: many(" + what + ") of a new row", () -> x.many(it), 0);
        }
        due("1: no FAMILY", () -> x.ofFamily(0, 0), INDEX);
        SaltRow y = new SaltRow();
        x.gate(3, true);
        x.family();
        due("1: another object is not touched", () -> y.many(2) + y.many(1), 0);
    }

    private static void promise2Area() {
        SaltRow x = new SaltRow();
        due("2: area at first", () -> x.area(0, 9), 3);
        due("2: area then", () -> x.area(0, 1), 9);
        due("2: area then", () -> x.area(0, 1), 1);
        due("2: of the POND 7", () -> x.area(7, 2), 3);
        due("2: is told", () -> x.ofPond(0, 0) * 10 + x.ofPond(7, 0), 12);
        due("2: of that POND alone", () -> x.ofPond(1, 0), 3);
        for (int pond : WRONG_PONDS) {
            refused("2: area(" + pond + ", 3)", x, () -> x.area(pond, 3), INDEX);
        }
        for (int area : new int[] {0, 10, -3, Integer.MIN_VALUE, Integer.MAX_VALUE}) {
            refused("2: area(0, " + area + ")", x, () -> x.area(0, area), ARGUMENT);
        }
        refused("2: the POND is named first", x, () -> x.area(8, 0), INDEX);
        x.pass(1, 0, 0, 0);
        refused("2: above DAY 0", x, () -> x.area(0, 3), STATE);
        refused("2: the area is named ahead of the DAY", x, () -> x.area(0, 10), ARGUMENT);
        refused("2: the POND is named ahead of the DAY", x, () -> x.area(-1, 3), INDEX);
    }

    private static void promise3Gate() {
        SaltRow x = new SaltRow();
        for (int pond = 0; pond < 8; pond++) {
            int it = pond;
            due("3: shut at first", () -> x.gate(it, false), false);
            due("3: still shut", () -> x.gate(it, true), false);
            due("3: open then", () -> x.gate(it, true), true);
        }
        due("3: all are open", () -> x.many(2), 255);
        due("3: was open", () -> x.gate(4, false), true);
        due("3: that one is shut", () -> x.many(2), 239);
        for (int pond : WRONG_PONDS) {
            refused("3: gate(" + pond + ")", x, () -> x.gate(pond, true), INDEX);
        }
    }

    private static void promise4Cover() {
        SaltRow x = new SaltRow();
        for (int pan = 5; pan < 8; pan++) {
            int it = pan;
            due("4: not at first", () -> x.cover(it, false), false);
            due("4: still not", () -> x.cover(it, true), false);
            due("4: then it is", () -> x.cover(it, true), true);
        }
        due("4: all three are", () -> x.many(3), 224);
        due("4: was COVERED", () -> x.cover(6, false), true);
        due("4: that one is not", () -> x.many(3), 160);
        for (int pan : WRONG_PANS) {
            refused("4: cover(" + pan + ")", x, () -> x.cover(pan, true), INDEX);
        }
    }

    private static void promise5SeaComesIn() {
        SaltRow x = withSea();
        due("5: the sea at TIDE 8", () -> pond(x, 0), "[3, 60, 1800, 120, 360, 0, 0, 0, 20, 7, 0]");
        due("5: with the GATE shut", () -> x.pass(1, 0, 0, 0) + x.ofPond(0, 1), 60);
        SaltRow y = new SaltRow();
        y.gate(0, true);
        int[] brine = {60, 97, 118, 126, 126, 126, 126, 126, 126, 132};
        for (int day = 1; day <= 10; day++) {
            y.pass(1, 0, 0, 0);
            due("5: BRINE on DAY " + day, () -> y.ofPond(0, 1), brine[day - 1]);
        }
        due("5: SALT from the SEA", () -> y.many(4), 132 * 30);
        for (int area = 1; area <= 9; area++) {
            SaltRow z = new SaltRow();
            z.area(0, area);
            letSeaIn(z);
            due("5: into AREA " + area, () -> z.ofPond(0, 1), 20 * area);
        }
        SaltRow w = new SaltRow();
        w.gate(1, true);
        w.pass(3, 0, 0, 0);
        due("5: only by the GATE of the POND 0", () -> w.many(14), 0);
    }

    private static void promise5BrineFlowsOn() {
        SaltRow x = new SaltRow();
        x.gate(0, true);
        x.gate(1, true);
        x.gate(2, true);
        x.pass(1, 0, 0, 0);
        due("5: half of the difference flows", () -> pond(x, 0), "[3, 30, 900, 60, 180, 0, 0, 0, 10, 7, 0]");
        due("5: into the next one", () -> pond(x, 1), "[3, 30, 900, 60, 180, 0, 0, 0, 10, 7, 0]");
        due("5: from 7 down to 1", () -> x.ofPond(2, 1), 0);
        x.pass(1, 0, 0, 0);
        // the POND 0 has 30 + (70 - 10) * 3 / 4 = 75; 15 go on from the POND 1; (25 - 5) * 3 / 2 follow
        due("5: then the POND 2", () -> x.ofPond(2, 1), 15);
        due("5: then the POND 1", () -> x.ofPond(1, 1), 45);
        due("5: then the POND 0", () -> x.ofPond(0, 1), 45);

        SaltRow y = new SaltRow();
        y.area(5, 1);
        letSeaIn(y);
        y.pump(0, 4, 45);
        y.gate(5, true);
        y.gate(4, true);
        y.pass(1, 0, 0, 0);
        due("5: the smaller AREA counts", () -> y.ofPond(5, 1), 7);
        due("5: behind the larger", () -> y.ofPond(4, 1), 38);
        due("5: not back", () -> y.ofPond(3, 1), 0);

        SaltRow z = new SaltRow();
        z.area(6, 2);
        letSeaIn(z);
        z.pump(0, 6, 30);
        z.pump(0, 7, 7);
        z.gate(7, true);
        z.pass(1, 0, 0, 0);
        // LEVELS 15 and 2: 13 * 2 / 2
        due("5: LEVELS are rounded down", () -> z.ofPond(7, 1), 20);

        SaltRow w = withSea();
        w.pass(1, 9, 9, 0);
        w.gate(1, true);
        w.pass(1, 0, 0, 0);
        // of 54 with LEVEL 18 go 27, with SHARES of 1800, 120 and 360
        due("5: SHARES go with it", () -> pond(w, 1), "[3, 27, 900, 60, 180, 0, 0, 0, 9, 8, 0]");

        SaltRow v = withSea();
        v.pump(0, 2, 30);
        v.gate(2, true);
        v.pass(1, 0, 0, 0);
        due("5: nothing flows back", () -> v.ofPond(2, 1), 30);
    }

    private static void promise5RainFallsAndMixes() {
        SaltRow x = new SaltRow();
        x.area(1, 9);
        x.area(2, 1);
        x.cover(6, true);
        x.pass(1, 0, 0, 40);
        due("5: FRESH of AREA 3", () -> pond(x, 0), "[3, 6, 0, 0, 0, 6, 0, 0, 2, 0, 0]");
        due("5: FRESH of AREA 9", () -> pond(x, 1), "[9, 18, 0, 0, 0, 18, 0, 0, 2, 0, 0]");
        due("5: FRESH of AREA 1", () -> pond(x, 2), "[1, 2, 0, 0, 0, 2, 0, 0, 2, 0, 0]");
        due("5: a PAN not COVERED", () -> x.ofPond(7, 5), 6);
        due("5: a PAN COVERED", () -> pond(x, 6), "[3, 0, 0, 0, 0, 0, 0, 0, 0, 0, 0]");
        x.pass(1, 0, 0, 0);
        due("5: half mixes", () -> x.ofPond(0, 5) * 100 + x.ofPond(0, 1), 309);
        x.pass(1, 0, 0, 0);
        due("5: half rounded up mixes", () -> x.ofPond(0, 5) * 100 + x.ofPond(0, 1), 111);
        x.pass(1, 0, 0, 0);
        due("5: the last mixes", () -> x.ofPond(0, 5) * 100 + x.ofPond(0, 1), 12);

        SaltRow y = new SaltRow();
        y.pass(1, 0, 0, 3);
        due("5: RAIN times AREA rounded down", () -> y.many(15) + y.many(14), 0);
        y.pass(1, 0, 0, 4);
        due("5: one of FRESH mixes", () -> y.many(15) * 100 + y.many(14), 8);
    }

    private static void promise5PondsDry() {
        SaltRow x = withSea();
        x.pass(1, 9, 9, 0);
        due("5: water alone dries", () -> pond(x, 0), "[3, 54, 1800, 120, 360, 0, 0, 0, 18, 8, 0]");
        SaltRow y = withSea();
        y.pass(1, 0, 7, 0);
        // 3 * 7 * 93 / 1000 rounded up
        due("5: WIND alone dries", () -> y.ofPond(0, 1), 58);
        SaltRow z = withSea();
        z.pass(1, 7, 0, 0);
        due("5: SUN alone dries", () -> z.ofPond(0, 1), 58);
        SaltRow w = withSea();
        w.pass(1, 9, 9, 4);
        // FRESH of 1 goes, which leaves a force of 44: 44 * 93 / 1000 rounded up
        due("5: FRESH dries first", () -> w.ofPond(0, 1) * 10 + w.ofPond(0, 5), 550);
        SaltRow v = new SaltRow();
        v.pass(1, 9, 9, 40);
        // 5 of 12 of FRESH go, 4 of 7 mix
        due("5: FRESH is a tenth of the force less", () -> v.ofPond(0, 1) * 10 + v.ofPond(0, 5), 43);
        SaltRow u = withSea();
        u.pump(0, 1, 7);
        u.pump(0, 2, 1);
        u.pump(0, 3, 2);
        u.pass(1, 9, 9, 0);
        due("5: half of the BRINE at most", () -> u.ofPond(1, 1), 4);
        due("5: the last does not dry", () -> u.ofPond(2, 1), 1);
        due("5: of two dries one", () -> u.ofPond(3, 1), 1);
        SaltRow t = withSea();
        t.cover(5, true);
        t.pump(0, 5, 20);
        t.pass(1, 9, 5, 40);
        due("5: a COVERED PAN dries all the same", () -> t.ofPond(5, 1), 16);
        SaltRow s = withCrust(3);
        s.pass(1, 0, 0, 0);
        s.pump(5, 6, 1);
        s.pass(1, 9, 9, 40);
        // STRENGTH 90 at most: 12 of FRESH less 5, 4 mix into 1; half of 1 is none
        due("5: nothing of one dries", () -> s.ofPond(6, 1), 5);
    }

    private static void promise5MineralsFall() {
        SaltRow x = withSea();
        x.pump(0, 5, 20);
        x.pump(0, 1, 20);
        due("5: nothing falls yet", () -> x.pass(3, 9, 5, 0), 0);
        due("5: dried to 8", () -> pond(x, 5), "[3, 8, 600, 40, 120, 0, 0, 0, 2, 18, 0]");
        due("5: GYPSUM falls first", () -> x.pass(1, 9, 5, 0), 0);
        due("5: as DIRT", () -> pond(x, 5), "[3, 4, 600, 32, 120, 0, 0, 8, 1, 36, 0]");
        due("5: SALT of 300 is held", () -> x.pass(1, 9, 9, 0), 0);
        due("5: all 300", () -> pond(x, 5), "[3, 2, 600, 16, 120, 0, 0, 24, 0, 72, 0]");
        due("5: then SALT falls, told of PANS alone", () -> x.pass(1, 9, 9, 0), 300);
        due("5: to the CRUST", () -> pond(x, 5), "[3, 1, 300, 8, 120, 0, 300, 32, 0, 84, 0]");
        due("5: of a POND too", () -> pond(x, 1), "[3, 1, 300, 8, 120, 0, 300, 32, 0, 84, 0]");
        due("5: no more falls", () -> x.pass(3, 9, 9, 0), 0);
        SaltRow y = withCrust(1);
        due("5: BITTER falls last", () -> pond(y, 5), "[1, 1, 300, 8, 200, 0, 1500, 272, 1, 90, 0]");
        SaltRow z = withSea();
        z.pump(0, 5, 20);
        z.pump(0, 6, 20);
        z.pump(0, 7, 20);
        due("5: what fell on all DAYS in all PANS", () -> z.pass(30, 9, 9, 0), 900);
    }

    private static void promise5CrustDissolves() {
        SaltRow x = withCrust(3);
        x.pass(1, 0, 0, 40);
        // 6 mix, 24 of SALT go back into the BRINE
        due("5: 4 times as much as mixes", () -> pond(x, 5), "[3, 7, 324, 8, 200, 6, 1476, 272, 2, 14, 0]");
        SaltRow y = withSea();
        y.pump(0, 5, 21);
        y.pass(30, 9, 9, 0);
        y.pass(1, 0, 0, 0);
        due("5: BRINE of 1 with its CRUST", () -> pond(y, 5), "[3, 1, 300, 8, 126, 0, 330, 34, 0, 85, 0]");
        y.harvest(5, true);
        due("5: nothing to go back", () -> y.pass(1, 0, 0, 40), 0);
        due("5: all went before", () -> pond(y, 5), "[3, 7, 300, 8, 126, 6, 0, 0, 2, 12, 0]");
        SaltRow z = new SaltRow();
        z.area(5, 1);
        letSeaIn(z);
        z.pump(0, 5, 60);
        z.pass(30, 9, 9, 0);
        z.pass(30, 9, 9, 0);
        for (int k = 0; k < 7; k++) {
            z.pass(1, 0, 0, 0);
            z.harvest(5, false);
        }
        // 100 are left; 2 of 4 mix each day, 8 go back
        z.pass(1, 0, 0, 40);
        due("5: goes back from what is left", () -> z.ofPond(5, 6), 92);
        z.harvest(5, false);
        due("5: all of it was taken", () -> z.ofPond(5, 6), 0);

        SaltRow w = withSea();
        w.pump(0, 5, 11);
        due("5: a CRUST of 30", () -> w.pass(30, 9, 9, 0), 30);
        w.pass(1, 0, 0, 20);
        due("5: less", () -> w.ofPond(5, 6), 18);
        w.pass(1, 0, 0, 20);
        due("5: less again", () -> w.ofPond(5, 6), 0);
        due("5: all, when there is less", () -> w.ofPond(5, 2), 330);
    }

    private static void promise5WrongInputsAndLimit() {
        SaltRow x = withSea();
        for (int days : new int[] {0, 31, -1, Integer.MIN_VALUE, Integer.MAX_VALUE}) {
            refused("5: pass(" + days + ")", x, () -> x.pass(days, 0, 0, 0), ARGUMENT);
        }
        for (int force : new int[] {-1, 10, Integer.MIN_VALUE, Integer.MAX_VALUE}) {
            refused("5: SUN of " + force, x, () -> x.pass(1, force, 0, 0), ARGUMENT);
            refused("5: WIND of " + force, x, () -> x.pass(1, 0, force, 0), ARGUMENT);
        }
        for (int rain : new int[] {-1, 41, Integer.MIN_VALUE, Integer.MAX_VALUE}) {
            refused("5: RAIN of " + rain, x, () -> x.pass(1, 0, 0, rain), ARGUMENT);
        }
        due("5: the largest of all", () -> x.pass(30, 9, 9, 40), 0);
        due("5: so many DAYS", () -> x.many(0), 31);
        due("5: one DAY", () -> x.pass(1, 0, 0, 0) + x.many(0), 32);
        SaltRow y = emptyOn(4980);
        refused("5: above DAY 5000", y, () -> y.pass(21, 0, 0, 0), STATE);
        refused("5: arguments are named first", y, () -> y.pass(30, 0, 0, 41), ARGUMENT);
        due("5: to DAY 5000", () -> y.pass(20, 0, 0, 0) + y.many(0), 5000);
        refused("5: no more", y, () -> y.pass(1, 0, 0, 0), STATE);
    }

    private static void promise6Skim() {
        SaltRow x = new SaltRow();
        x.pass(1, 0, 0, 40);
        due("6: FRESH is gone", () -> x.skim(0), 6);
        due("6: of that POND", () -> pond(x, 0), "[3, 6, 0, 0, 0, 0, 0, 0, 2, 0, 0]");
        due("6: of that alone", () -> x.ofPond(1, 5), 6);
        due("6: none then", () -> x.skim(0), 0);
        due("6: of the POND 7", () -> x.skim(7), 6);
        due("6: ever", () -> x.many(16), 12);
        for (int pond : WRONG_PONDS) {
            refused("6: skim(" + pond + ")", x, () -> x.skim(pond), INDEX);
        }
    }

    private static void promise7Drain() {
        SaltRow x = withCrust(3);
        refused("7: a POND without BRINE", x, () -> x.drain(0), STATE);
        x.pass(5, 0, 0, 0);
        refused("7: at a TIDE of 5", x, () -> x.drain(5), STATE);
        x.pass(8, 0, 0, 0);
        refused("7: at a TIDE of 5 again", x, () -> x.drain(5), STATE);
        x.pass(1, 0, 0, 40);
        due("7: RAIN on a CRUST", () -> pond(x, 5), "[3, 7, 324, 8, 200, 6, 1476, 272, 2, 14, 0]");
        due("7: BRINE is gone", () -> x.drain(5), 7);
        refused("7: none is left", x, () -> x.drain(5), STATE);
        due("7: FRESH and CRUST stay", () -> pond(x, 5), "[3, 0, 0, 0, 0, 6, 1476, 272, 0, 0, 0]");
        due("7: LOST ever", () -> x.many(9), 324);
        for (int pond : WRONG_PONDS) {
            refused("7: drain(" + pond + ")", x, () -> x.drain(pond), INDEX);
        }
        SaltRow y = withSea();
        refused("7: at a TIDE of 8", y, () -> y.drain(0), STATE);
        y.pass(3, 0, 0, 0);
        refused("7: at a TIDE of 5", y, () -> y.drain(0), STATE);
        y.pass(1, 0, 0, 0);
        due("7: at a TIDE of 4", () -> y.drain(0), 60);
        due("7: all SALT of the SEA is LOST", () -> y.many(9), 1800);
    }

    private static void promise8Pump() {
        SaltRow x = withSea();
        x.pass(1, 9, 9, 0);
        due("8: STRENGTH of the other one", () -> x.pump(0, 5, 7), 7);
        due("8: SHARES rounded down", () -> pond(x, 5), "[3, 7, 233, 15, 46, 0, 0, 0, 2, 7, 0]");
        due("8: the rest stays", () -> pond(x, 0), "[3, 47, 1567, 105, 314, 0, 0, 0, 15, 8, 0]");
        due("8: a tenth rounded up", () -> x.many(17), -1);
        x.pump(0, 5, 10);
        due("8: a tenth", () -> x.many(17), -2);
        x.pump(0, 1, 11);
        due("8: a tenth rounded up", () -> x.many(17), -4);
        refused("8: there is less", x, () -> x.pump(0, 7, 27), STATE);
        due("8: all of it", () -> x.pump(0, 7, 26), 8);
        due("8: nothing is left", () -> x.ofPond(0, 1) + x.ofPond(0, 2) + x.ofPond(0, 3) + x.ofPond(0, 4), 0);
        due("8: upward too", () -> x.pump(7, 0, 1), 7);
        for (int pond : WRONG_PONDS) {
            refused("8: pump(" + pond + ", 0, 1)", x, () -> x.pump(pond, 0, 1), INDEX);
            refused("8: pump(7, " + pond + ", 1)", x, () -> x.pump(7, pond, 1), INDEX);
            refused("8: ahead of much", x, () -> x.pump(7, pond, 0), INDEX);
            refused("8: ahead of both", x, () -> x.pump(pond, pond, 1), INDEX);
        }
        refused("8: both are the same", x, () -> x.pump(7, 7, 1), ARGUMENT);
        refused("8: ahead of less", x, () -> x.pump(7, 7, 1000), ARGUMENT);
        for (int much : new int[] {0, -1, Integer.MIN_VALUE}) {
            refused("8: much " + much, x, () -> x.pump(7, 6, much), ARGUMENT);
        }
        refused("8: of an empty POND", x, () -> x.pump(2, 6, 1), STATE);
        refused("8: far too much", x, () -> x.pump(7, 6, Integer.MAX_VALUE), STATE);
    }

    private static void promise9Family() {
        SaltRow x = new SaltRow();
        for (int k = 0; k < 6; k++) {
            int it = k;
            due("9: family()", () -> x.family(), k);
            due("9: FAMILIES", () -> x.many(1), k + 1);
            due("9: its HEAP", () -> family(x, it), "[0, 0, 0, 0, 0, 0]");
            due("9: its RIGHTS", () -> x.rightOf(it, 5) + x.rightOf(it, 6) + x.rightOf(it, 7), 0);
        }
        refused("9: no seventh", x, () -> x.family(), STATE);
    }

    private static void promise10Right() {
        SaltRow x = new SaltRow();
        refused("10: no FAMILY", x, () -> x.right(0, 5, 1), INDEX);
        x.family();
        x.family();
        due("10: none before", () -> x.right(0, 5, 12), 0);
        due("10: those before", () -> x.right(0, 5, 7), 12);
        due("10: the same again", () -> x.right(0, 5, 7), 7);
        due("10: 12 together", () -> x.right(1, 5, 5), 0);
        refused("10: 13 together", x, () -> x.right(1, 5, 6), STATE);
        refused("10: 13 together", x, () -> x.right(0, 5, 8), STATE);
        due("10: of another PAN", () -> x.right(1, 6, 12), 0);
        due("10: of the PAN 7", () -> x.right(0, 7, 1), 0);
        due("10: fewer", () -> x.right(0, 5, 0), 7);
        due("10: then more", () -> x.right(1, 5, 12), 5);
        for (int pan : WRONG_PANS) {
            refused("10: right(0, " + pan + ")", x, () -> x.right(0, pan, 1), INDEX);
        }
        for (int family : new int[] {-1, 2, 6, Integer.MIN_VALUE, Integer.MAX_VALUE}) {
            refused("10: right(" + family + ", 5)", x, () -> x.right(family, 5, 0), INDEX);
        }
        for (int twelfths : new int[] {-1, 13, Integer.MIN_VALUE, Integer.MAX_VALUE}) {
            refused("10: so many twelfths as " + twelfths, x, () -> x.right(0, 5, twelfths), ARGUMENT);
        }
        refused("10: the PAN is named first", x, () -> x.right(0, 4, 13), INDEX);
        refused("10: the FAMILY is named first", x, () -> x.right(2, 5, 13), INDEX);
    }

    private static void promise11Harvest() {
        SaltRow x = withFamily(1, 11);
        due("11: by RAKES", () -> x.harvest(5, false), 200);
        due("11: of the CRUST", () -> pond(x, 5), "[1, 1, 300, 8, 200, 0, 1300, 236, 1, 90, 1]");
        due("11: of the FAMILY", () -> family(x, 0), "[165, 33, 83, 0, 165, 0]");
        due("11: of the CROWN", () -> x.many(10), 20);
        due("11: of the CLOISTER", () -> x.many(11) * 100 + x.many(13), 1503);
        refused("11: once a DAY", x, () -> x.harvest(5, true), STATE);
        refused("11: once a DAY with FLOWERS", x, () -> x.flower(5), STATE);
        x.pass(1, 0, 0, 0);
        due("11: a new DAY", () -> x.ofPond(5, 10), 0);
        due("11: by a MACHINE", () -> x.harvest(5, true), 1300);
        due("11: all of it", () -> pond(x, 5), "[1, 1, 300, 8, 200, 0, 0, 0, 1, 90, 1]");
        due("11: with DIRT of the floor", () -> family(x, 0), "[1237, 258, 82, 0, 1237, 0]");
        due("11: of the CROWN", () -> x.many(10), 150);
        due("11: of the CLOISTER", () -> x.many(11) * 100 + x.many(13), 11324);
        x.pass(1, 0, 0, 0);
        refused("11: without SALT", x, () -> x.harvest(5, true), STATE);
        for (int pan : WRONG_PANS) {
            refused("11: harvest(" + pan + ")", x, () -> x.harvest(pan, true), INDEX);
        }
        SaltRow y = withFamily(9, 12);
        due("11: by RAKES all, if there is less", () -> y.harvest(5, false), 1500);
        due("11: all twelfths", () -> family(y, 0), "[1350, 272, 83, 0, 1350, 0]");
        due("11: nothing for the CLOISTER", () -> y.many(11) + y.many(13), 0);
        SaltRow z = withCrust(9);
        due("11: without FAMILIES", () -> z.harvest(5, true), 1500);
        due("11: all for the CLOISTER", () -> z.many(11) * 1000 + z.many(13), 1350362);
        SaltRow w = withCrust(1);
        for (int k = 0; k < 6; k++) {
            w.family();
            w.right(k, 5, 2);
        }
        w.right(0, 5, 1);
        w.harvest(5, false);
        due("11: each its twelfths", () -> w.ofFamily(0, 0) * 100 + w.ofFamily(0, 1), 1503);
        due("11: each its twelfths", () -> w.ofFamily(5, 0) * 100 + w.ofFamily(5, 1), 3006);
        due("11: the rest", () -> w.many(11) * 100 + w.many(13), 1503);
    }

    private static void promise12Flower() {
        SaltRow x = withFamily(9, 7);
        refused("12: WIND of 9", x, () -> x.flower(5), STATE);
        x.pass(1, 9, 3, 0);
        refused("12: WIND of 3", x, () -> x.flower(5), STATE);
        x.pass(1, 5, 0, 0);
        refused("12: SUN of 5", x, () -> x.flower(5), STATE);
        x.pass(1, 6, 2, 0);
        due("12: SUN of 6, WIND of 2", () -> x.flower(5), 27);
        due("12: of the BRINE", () -> pond(x, 5), "[9, 1, 273, 8, 200, 0, 1500, 272, 0, 90, 1]");
        due("12: of the FAMILY", () -> family(x, 0), "[15, 0, 100, 0, 15, 0]");
        due("12: of the CLOISTER, not the CROWN", () -> x.many(11) * 100 + x.many(10), 1200);
        due("12: without DIRT", () -> x.many(13), 0);
        refused("12: once a DAY", x, () -> x.flower(5), STATE);
        refused("12: once a DAY with the HARVEST", x, () -> x.harvest(5, false), STATE);
        refused("12: no BRINE", x, () -> x.flower(6), STATE);
        for (int pan : WRONG_PANS) {
            refused("12: flower(" + pan + ")", x, () -> x.flower(pan), INDEX);
        }
        // STRENGTH with 300 - 27 k of SALT and 200 of BITTER in 1 of BRINE; k of 8 leaves 284, k of 9 leaves 257
        for (int k = 2; k <= 9; k++) {
            x.pass(1, 9, 0, 0);
            due("12: FLOWERS " + k, () -> x.flower(5), 27);
        }
        due("12: STRENGTH of 51", () -> x.ofPond(5, 9), 51);
        x.pass(1, 9, 0, 0);
        refused("12: STRENGTH below 55", x, () -> x.flower(5), STATE);
        SaltRow y = withSea();
        refused("12: SUN and WIND of 0 at first", y, () -> y.flower(5), STATE);
    }

    /** FLOWERS of 3 leave 273, 270 ..; STRENGTH is 55 down to a sum of 275, 54 with 274. */
    private static void promise12StrengthAtItsLimit() {
        SaltRow x = withFamily(1, 12);
        x.pass(1, 9, 0, 0);
        int taken = 0;
        while (x.ofPond(5, 2) + x.ofPond(5, 4) >= 275 && taken < 100) {
            due("12: with a STRENGTH of 55 or more", () -> x.flower(5), 3);
            x.pass(1, 9, 0, 0);
            taken++;
        }
        due("12: so often", () -> x.ofPond(5, 2), 72);
        due("12: STRENGTH of 54", () -> x.ofPond(5, 9), 54);
        refused("12: no more of it", x, () -> x.flower(5), STATE);
        due("12: so much", () -> x.ofFamily(0, 0), 300 - 72);
    }

    private static void promise13Wash() {
        SaltRow x = withFamily(1, 11);
        refused("13: no SALT", x, () -> x.wash(0), STATE);
        x.harvest(5, false);
        due("13: PURITY then", () -> x.wash(0), 90);
        due("13: DIRT and SALT are less", () -> family(x, 0), "[156, 16, 90, 0, 165, 0]");
        due("13: LOST", () -> x.many(9), 9);
        due("13: again", () -> x.wash(0), 94);
        due("13: again", () -> x.wash(0), 97);
        due("13: again", () -> x.wash(0), 98);
        due("13: again", () -> x.wash(0), 99);
        due("13: without DIRT", () -> x.wash(0), 100);
        due("13: SALT alone", () -> family(x, 0), "[119, 0, 100, 0, 165, 0]");
        due("13: LOST", () -> x.many(9), 46);
        refused("13: no such FAMILY", x, () -> x.wash(1), INDEX);
        refused("13: no such FAMILY", x, () -> x.wash(-1), INDEX);
        refused("13: no such FAMILY", x, () -> x.wash(Integer.MAX_VALUE), INDEX);
        SaltRow y = withFamily(1, 1);
        y.pass(1, 9, 0, 0);
        for (int k = 0; k < 20; k++) {
            y.flower(5);
            y.pass(1, 9, 0, 0);
        }
        due("13: a twelfth of 3 is none", () -> y.ofFamily(0, 0), 0);
        y.right(0, 5, 4);
        y.flower(5);
        due("13: SALT of 1", () -> y.ofFamily(0, 0), 1);
        due("13: all of it is LOST", () -> y.wash(0), 0);
        due("13: so it is", () -> family(y, 0), "[0, 0, 0, 0, 1, 0]");
    }

    private static void promise14Sell() {
        SaltRow x = withFamily(1, 11);
        refused("14: there is none", x, () -> x.sell(0, 1, 1), STATE);
        x.harvest(5, false);
        unchanged("14: PURITY of 83", x, () -> x.sell(0, 10, 50), -2);
        refused("14: exceptions go ahead of that", x, () -> x.sell(0, 166, 50), STATE);
        refused("14: exceptions go ahead of that", x, () -> x.sell(0, 10, 100), ARGUMENT);
        x.wash(0);
        due("14: half with a PURITY of 90", () -> x.sell(0, 15, 99), 74);
        due("14: with the SHARE of DIRT", () -> family(x, 0), "[141, 15, 90, 74, 165, 15]");
        x.wash(0);
        x.wash(0);
        due("14: HEAP of 97", () -> family(x, 0), "[126, 3, 97, 74, 165, 15]");
        due("14: whole with a PURITY of 97", () -> x.sell(0, 15, 99), 148);
        due("14: COINS are more", () -> family(x, 0), "[111, 3, 97, 222, 165, 30]");
        due("14: SOLD", () -> x.many(8), 30);
        due("14: rounded down to nothing", () -> x.sell(0, 9, 1), 0);
        due("14: one coin", () -> x.sell(0, 10, 1), 1);
        refused("14: there is less", x, () -> x.sell(0, 93, 1), STATE);
        due("14: HEAP of 96", () -> family(x, 0), "[92, 3, 96, 223, 165, 49]");
        due("14: half with a PURITY of 96, all of it", () -> x.sell(0, 92, 99), 455);
        due("14: nothing is left", () -> family(x, 0), "[0, 0, 0, 678, 165, 141]");
        for (int family : new int[] {-1, 1, Integer.MIN_VALUE, Integer.MAX_VALUE}) {
            refused("14: sell(" + family + ")", x, () -> x.sell(family, 0, 0), INDEX);
        }
        for (int salt : new int[] {0, -1, Integer.MIN_VALUE}) {
            refused("14: SALT of " + salt, x, () -> x.sell(0, salt, 1), ARGUMENT);
        }
        for (int price : new int[] {0, 100, -1, Integer.MIN_VALUE, Integer.MAX_VALUE}) {
            refused("14: PRICE of " + price, x, () -> x.sell(0, 1, price), ARGUMENT);
        }
        refused("14: far too much", x, () -> x.sell(0, Integer.MAX_VALUE, 99), STATE);
    }

    private static void promise14SellWhatIsHardlyPure() {
        SaltRow x = withFamily(1, 11);
        x.harvest(5, false);
        x.wash(0);
        x.sell(0, 9, 50);
        due("14: a SHARE of less than one", () -> family(x, 0), "[147, 16, 90, 22, 165, 9]");
        x.sell(0, 9, 50);
        due("14: HEAP of 89", () -> family(x, 0), "[138, 16, 89, 44, 165, 18]");
        unchanged("14: PURITY of 89", x, () -> x.sell(0, 9, 50), -2);
    }

    private static void promise15OfPond() {
        SaltRow x = withSea();
        x.pass(1, 9, 9, 10);
        due("15: all of a POND", () -> pond(x, 0), "[3, 57, 1800, 120, 360, 0, 0, 0, 19, 7, 0]");
        SaltRow y = withCrust(1);
        y.pass(1, 0, 0, 40);
        y.harvest(5, false);
        due("15: all of a PAN", () -> pond(y, 5), "[1, 3, 308, 8, 200, 2, 1292, 236, 3, 33, 1]");
        for (int pond : WRONG_PONDS) {
            refused("15: ofPond(" + pond + ")", x, () -> x.ofPond(pond, 0), INDEX);
            refused("15: the POND is named first", x, () -> x.ofPond(pond, 11), INDEX);
        }
        for (int what : new int[] {-1, 11, Integer.MIN_VALUE, Integer.MAX_VALUE}) {
            refused("15: ofPond(0, " + what + ")", x, () -> x.ofPond(0, what), ARGUMENT);
        }
    }

    private static void promise16OfFamily() {
        SaltRow x = withFamily(9, 12);
        x.family();
        x.harvest(5, false);
        x.wash(0);
        x.wash(0);
        x.sell(0, 100, 10);
        // 1350 and 272 by RAKES; 1282 and 136, then 1217 and 68 washed (94): half of 100 COINS, 5 of DIRT
        due("16: all of a FAMILY", () -> family(x, 0), "[1117, 63, 94, 50, 1350, 100]");
        due("16: of another", () -> family(x, 1), "[0, 0, 0, 0, 0, 0]");
        for (int family : new int[] {-1, 2, 6, Integer.MIN_VALUE, Integer.MAX_VALUE}) {
            refused("16: ofFamily(" + family + ")", x, () -> x.ofFamily(family, 0), INDEX);
            refused("16: the FAMILY is named first", x, () -> x.ofFamily(family, 6), INDEX);
        }
        for (int what : new int[] {-1, 6, Integer.MIN_VALUE, Integer.MAX_VALUE}) {
            refused("16: ofFamily(0, " + what + ")", x, () -> x.ofFamily(0, what), ARGUMENT);
        }
    }

    private static void promise17RightOf() {
        SaltRow x = new SaltRow();
        refused("17: no FAMILY", x, () -> x.rightOf(0, 5), INDEX);
        x.family();
        x.family();
        x.right(0, 5, 1);
        x.right(0, 6, 2);
        x.right(0, 7, 3);
        x.right(1, 5, 4);
        due("17: of each PAN", () -> x.rightOf(0, 5) * 100 + x.rightOf(0, 6) * 10 + x.rightOf(0, 7), 123);
        due("17: of another", () -> x.rightOf(1, 5) * 100 + x.rightOf(1, 6) * 10 + x.rightOf(1, 7), 400);
        for (int pan : WRONG_PANS) {
            refused("17: rightOf(0, " + pan + ")", x, () -> x.rightOf(0, pan), INDEX);
        }
        for (int family : new int[] {-1, 2, 6, Integer.MIN_VALUE, Integer.MAX_VALUE}) {
            refused("17: rightOf(" + family + ", 5)", x, () -> x.rightOf(family, 5), INDEX);
        }
    }

    private static void promise18Tide() {
        SaltRow x = new SaltRow();
        int[] tides = {9, 8, 7, 6, 5, 4, 3, 2, 3, 4, 5, 6, 7, 8};
        for (int day = 0; day <= 9999; day += day < 100 ? 1 : 97) {
            int it = day;
            due("18: tide(" + day + ")", () -> x.tide(it), tides[day % 14]);
        }
        due("18: the last", () -> x.tide(9999), tides[9999 % 14]);
        for (int day : new int[] {-1, 10000, Integer.MIN_VALUE, Integer.MAX_VALUE}) {
            refused("18: tide(" + day + ")", x, () -> x.tide(day), ARGUMENT);
        }
    }

    private static void promise19Many() {
        SaltRow x = withFamily(1, 11);
        x.family();
        x.gate(1, true);
        x.gate(7, true);
        x.cover(5, true);
        x.cover(7, true);
        x.harvest(5, false);
        x.wash(0);
        x.sell(0, 15, 99);
        x.pass(1, 0, 0, 40);
        x.skim(1);
        int[] want = {62, 2, 130, 160, 1800, 300, 1300, 141, 15, 9, 20, 15, 236, 3, 37, 30, 6, -6};
        for (int what = 0; what <= 17; what++) {
            int it = what;
            due("19: many(" + what + ")", () -> x.many(it), want[what]);
        }
        for (int what : new int[] {-1, 18, Integer.MIN_VALUE, Integer.MAX_VALUE}) {
            refused("19: many(" + what + ")", x, () -> x.many(what), ARGUMENT);
        }
    }

    private static void promise20MeanStrength() {
        SaltRow x = new SaltRow();
        due("20: without BRINE", () -> x.meanStrength(), 0.0);
        letSeaIn(x);
        due("20: of one", () -> x.meanStrength(), 7.0);
        x.pass(1, 9, 9, 0);
        x.pump(0, 5, 7);
        due("20: of two", () -> x.meanStrength(), 7.5);
        x.pump(0, 6, 7);
        due("20: of three", () -> x.meanStrength(), (8 + 7 + 7) / 3.0);
        SaltRow y = new SaltRow();
        y.pass(1, 0, 0, 40);
        due("20: BRINE without SALT", () -> y.meanStrength(), 0.0);
        SaltRow z = withCrust(1);
        due("20: 90 at most", () -> z.meanStrength(), 90.0);
    }

    private static void promise21CrustIn() {
        SaltRow x = withSea();
        x.pump(0, 5, 20);
        x.pass(4, 9, 5, 0);
        due("21: in two DAYS", () -> x.crustIn(5, 9, 9), 2);
        due("21: not without SUN and WIND", () -> x.crustIn(5, 0, 0), -1);
        due("21: not in an empty PAN", () -> x.crustIn(6, 9, 9), -1);
        unchanged("21: nothing is changed", x, () -> x.crustIn(5, 9, 9), 2);
        x.pass(1, 9, 9, 0);
        due("21: in one DAY", () -> x.crustIn(5, 9, 9), 1);
        x.pass(1, 9, 9, 0);
        due("21: no more behind that", () -> x.crustIn(5, 9, 9), -1);
        for (int pan : WRONG_PANS) {
            refused("21: crustIn(" + pan + ")", x, () -> x.crustIn(pan, 0, 0), INDEX);
            refused("21: the PAN is named first", x, () -> x.crustIn(pan, 10, 10), INDEX);
        }
        for (int force : new int[] {-1, 10, Integer.MIN_VALUE, Integer.MAX_VALUE}) {
            refused("21: SUN of " + force, x, () -> x.crustIn(5, force, 0), ARGUMENT);
            refused("21: WIND of " + force, x, () -> x.crustIn(5, 0, force), ARGUMENT);
        }
        SaltRow y = new SaltRow();
        y.gate(0, true);
        for (int pond = 1; pond < 8; pond++) {
            y.gate(pond, true);
        }
        y.pass(30, 2, 1, 0);
        for (int pan = 5; pan < 8; pan++) {
            int it = pan;
            due("21: with GATES as they are", () -> y.crustIn(it, 9, 9), crustByTrying(y.many(0), it));
        }
        SaltRow z = emptyOn(5000);
        for (int pond = 0; pond < 8; pond++) {
            z.gate(pond, true);
        }
        // its TIDES are those behind DAY 2
        unchanged("21: beyond DAY 5000", z, () -> z.crustIn(5, 9, 9), crustOfEmptyOn(2));
    }

    private static int crustOfEmptyOn(int day) {
        SaltRow x = emptyOn(day);
        for (int pond = 0; pond < 8; pond++) {
            x.gate(pond, true);
        }
        return daysToCrust(x, 5);
    }

    private static int crustByTrying(int days, int pan) {
        SaltRow x = new SaltRow();
        for (int pond = 0; pond < 8; pond++) {
            x.gate(pond, true);
        }
        x.pass(days, 2, 1, 0);
        return daysToCrust(x, pan);
    }

    private static int daysToCrust(SaltRow x, int pan) {
        for (int k = 1; k <= 60; k++) {
            x.pass(1, 9, 9, 0);
            if (x.ofPond(pan, 6) > 0) {
                return k;
            }
        }
        return -1;
    }

    /** The same BRINE is asked day by day: behind one DAY more it takes one DAY less, and 61 are too many. */
    private static void promise21CrustOnTheLastDay() {
        SaltRow x = fullPan();
        SaltRow y = fullPan();
        int behind = 0;
        while (y.ofPond(5, 6) == 0 && behind < 200) {
            y.pass(1, 1, 0, 0);
            behind++;
        }
        int all = behind;
        due("21: more than 61 DAYS are needed", () -> all > 61, true);
        for (int left = all; left > 0; left--) {
            int want = left <= 60 ? left : -1;
            due("21: " + left + " DAYS ahead", () -> x.crustIn(5, 1, 0), want);
            x.pass(1, 1, 0, 0);
        }
    }

    private static SaltRow fullPan() {
        SaltRow x = new SaltRow();
        x.area(0, 9);
        letSeaIn(x);
        x.pump(0, 5, 180);
        return x;
    }

    private static void promise22BestGates() {
        SaltRow x = new SaltRow();
        due("22: an empty row far from the SEA", () -> x.bestGates(1, 9, 9), 0);
        for (int days : new int[] {0, 10, -1, Integer.MIN_VALUE, Integer.MAX_VALUE}) {
            refused("22: bestGates(" + days + ")", x, () -> x.bestGates(days, 0, 0), ARGUMENT);
        }
        for (int force : new int[] {-1, 10, Integer.MIN_VALUE, Integer.MAX_VALUE}) {
            refused("22: SUN of " + force, x, () -> x.bestGates(1, force, 0), ARGUMENT);
            refused("22: WIND of " + force, x, () -> x.bestGates(1, 0, force), ARGUMENT);
        }
        SaltRow y = withSea();
        y.pump(0, 4, 30);
        due("22: into the PANS", () -> y.bestGates(1, 0, 0), 32);
        y.pump(4, 5, 30);
        due("22: the smallest of several", () -> y.bestGates(1, 9, 9), 0);
        SaltRow w = emptyOn(5000);
        unchanged("22: beyond DAY 5000", w, () -> w.bestGates(9, 3, 1), bestByTrying(() -> emptyOn(2), 9, 3, 1));
        for (int days : new int[] {1, 2, 5, 8, 9}) {
            for (int before : new int[] {3, 10, 16, 25}) {
                SaltRow z = filledBehind(before);
                unchanged("22: behind " + before + ", in " + days, z, () -> z.bestGates(days, 6, 2),
                        bestByTrying(() -> filledBehind(before), days, 6, 2));
            }
        }
    }

    private static SaltRow filledBehind(int days) {
        SaltRow x = new SaltRow();
        for (int pond = 0; pond < 7; pond++) {
            x.gate(pond, true);
        }
        x.pass(days, 2, 1, 1);
        return x;
    }

    /** The best set of GATES, by letting the DAYS go by in a row of its own for each set. */
    private static int bestByTrying(Made made, int days, int sun, int wind) {
        int best = -1;
        int most = -1;
        for (int set = 0; set < 256; set++) {
            SaltRow x = made.make();
            for (int pond = 0; pond < 8; pond++) {
                x.gate(pond, (set & 1 << pond) != 0);
            }
            x.pass(days, sun, wind, 0);
            int salt = 0;
            for (int pan = 5; pan < 8; pan++) {
                salt += x.ofPond(pan, 2) + x.ofPond(pan, 6);
            }
            if (salt > most) {
                most = salt;
                best = set;
            }
        }
        return best;
    }

    private static void promise23WouldBe() {
        SaltRow x = withFamily(1, 11);
        x.family();
        for (int k = 0; k < 3; k++) {
            for (boolean isMachine : new boolean[] {false, true}) {
                int times = k;
                SaltRow y = harvestedTimes(times);
                y.harvest(5, isMachine);
                unchanged("23: wouldBe of a FAMILY with RIGHTS", x, () -> x.wouldBe(5, isMachine, 0), y.ofFamily(0, 2));
                unchanged("23: wouldBe of one without", x, () -> x.wouldBe(5, isMachine, 1), 0);
            }
            x.harvest(5, false);
            unchanged("23: harvested this DAY", x, () -> x.wouldBe(5, true, 0), -1);
            x.pass(1, 0, 0, 0);
            x.wash(0);
        }
        unchanged("23: without SALT", x, () -> x.wouldBe(6, true, 0), -1);
        for (int pan : WRONG_PANS) {
            refused("23: wouldBe(" + pan + ")", x, () -> x.wouldBe(pan, true, 0), INDEX);
        }
        for (int family : new int[] {-1, 2, 6, Integer.MIN_VALUE, Integer.MAX_VALUE}) {
            refused("23: wouldBe(5, " + family + ")", x, () -> x.wouldBe(5, true, family), INDEX);
            refused("23: of a PAN without SALT", x, () -> x.wouldBe(6, true, family), INDEX);
        }
    }

    private static SaltRow harvestedTimes(int times) {
        SaltRow x = withFamily(1, 11);
        for (int k = 0; k < times; k++) {
            x.harvest(5, false);
            x.pass(1, 0, 0, 0);
            x.wash(0);
        }
        return x;
    }

    private static void promise24TideOn() {
        SaltRow x = new SaltRow();
        due("24: this DAY", () -> x.tideOn(9, true), 0);
        due("24: a low one", () -> x.tideOn(2, false), 7);
        due("24: none so high", () -> x.tideOn(10, true), -1);
        due("24: none so low", () -> x.tideOn(1, false), -1);
        due("24: any", () -> x.tideOn(0, true) + x.tideOn(20, false), 0);
        due("24: none of 20", () -> x.tideOn(20, true), -1);
        for (int tide : new int[] {-1, 21, Integer.MIN_VALUE, Integer.MAX_VALUE}) {
            refused("24: tideOn(" + tide + ")", x, () -> x.tideOn(tide, true), ARGUMENT);
            refused("24: tideOn(" + tide + ")", x, () -> x.tideOn(tide, false), ARGUMENT);
        }
        x.pass(1, 0, 0, 0);
        due("24: the last of 14", () -> x.tideOn(9, true), 14);
        due("24: that or less", () -> x.tideOn(7, false), 2);
        due("24: that or more", () -> x.tideOn(7, true), 1);
        x.pass(7, 0, 0, 0);
        due("24: the low one of the next", () -> x.tideOn(2, false), 21);
        SaltRow y = emptyOn(5000);
        unchanged("24: beyond DAY 5000", y, () -> y.tideOn(9, true), 5012);
    }

    private static void promise25Digest() {
        SaltRow x = withFamily(1, 11);
        x.family();
        x.right(1, 7, 3);
        x.harvest(5, false);
        x.gate(4, true);
        x.pass(1, 6, 2, 40);
        unchanged("25: digest", x, () -> x.digest(), digestByAsking(x));
        SaltRow y = new SaltRow();
        unchanged("25: of a new row", y, () -> y.digest(), digestByAsking(y));
        due("25: the same again", () -> y.digest(), -4621288207330106749L);
    }

    private static long digestByAsking(SaltRow x) {
        List<Integer> all = new ArrayList<>();
        for (int what = 0; what < 18; what++) {
            all.add(x.many(what));
        }
        for (int k = 0; k < 88; k++) {
            all.add(x.ofPond(k / 11, k % 11));
        }
        for (int k = 0; k < x.many(1) * 9; k++) {
            all.add(k % 9 < 6 ? x.ofFamily(k / 9, k % 9) : x.rightOf(k / 9, k % 9 - 1));
        }
        for (int pan = 5; pan < 8; pan++) {
            all.add(x.crustIn(pan, 7, 3));
        }
        all.add(x.bestGates(3, 6, 2));
        all.add(x.tideOn(9, true));
        all.add(x.tideOn(3, false));
        long d = 7804;
        for (int v : all) {
            d = d * 31 + v;
        }
        return d;
    }
}
