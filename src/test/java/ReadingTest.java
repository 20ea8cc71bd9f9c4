import java.util.ArrayList;
import java.util.List;
import java.util.concurrent.Callable;

/**
 * A test for each sentence that a reading of the document from its first line found without one of its own: that a
 * sentence holds of each POND, GATE, PAN and FAMILY, what comes ahead of what in a DAY, and that a call changes what
 * its sentence names and nothing else.
 */
public final class ReadingTest extends Checks {
    public static void main(String[] args) {
        runAll(ReadingTest.class);
    }

    // ---- what a call changes

    /** The names and values of all that can be asked (but digest() and what would be). */
    private static List<String> all(SaltRow x) {
        List<String> all = new ArrayList<>();
        for (int what = 0; what <= 17; what++) {
            all.add("many " + what + ": " + x.many(what));
        }
        for (int k = 0; k < 88; k++) {
            all.add("POND " + k / 11 + ", " + k % 11 + ": " + x.ofPond(k / 11, k % 11));
        }
        int families = x.many(1);
        for (int family = 0; family < 6; family++) {
            for (int k = 0; k < 9; k++) {
                boolean isThere = family < families;
                int value = !isThere ? 0 : k < 6 ? x.ofFamily(family, k) : x.rightOf(family, k - 1);
                all.add("FAMILY " + family + ", " + (k < 6 ? "" : "PAN ") + (k < 6 ? k : k - 1) + ": " + value);
            }
        }
        return all;
    }

    /** Makes the call, then holds what is another value than before against those that are due, with their new values. */
    private static void changes(String what, SaltRow x, Callable<?> call, Object want, String... due) {
        List<String> before = all(x);
        due(what, call, want);
        List<String> changed = all(x);
        changed.removeAll(before);
        due(what + " changes these alone", () -> String.join("; ", changed), String.join("; ", due));
    }

    /**
     * On DAY 35, with a TIDE of 2: in each PAN (with AREAS of 1) BRINE 1 with 300, 8 and 120 and a CRUST of 300 and 32;
     * the GATES 1, 6 and 7 are open, the PANS 5 and 6 are COVERED; the others have FRESH of 5 (40 and 20 of RAIN, of which
     * 6, 2 and 5 went); two FAMILIES have 2 and 5 RIGHTS in the PAN 5, 3 and 6 in the PAN 6, 4 and 7 in the PAN 7. The
     * latest DAY had SUN of 9 and WIND of 0.
     */
    private static SaltRow inUse() {
        SaltRow x = new SaltRow();
        for (int pan = 5; pan < 8; pan++) {
            x.area(pan, 1);
        }
        letSeaIn(x);
        for (int pan = 5; pan < 8; pan++) {
            x.pump(0, pan, 20);
            x.cover(pan, true);
        }
        x.pass(30, 9, 9, 0);
        x.pass(2, 0, 0, 0);
        x.pass(1, 0, 0, 40);
        x.pass(1, 9, 0, 20);
        x.cover(7, false);
        x.gate(1, true);
        x.gate(6, true);
        x.gate(7, true);
        for (int k = 0; k < 2; k++) {
            x.family();
            for (int pan = 5; pan < 8; pan++) {
                x.right(k, pan, pan - 3 + 3 * k);
            }
        }
        return x;
    }

    private static void changes00TheRowInUse() {
        SaltRow x = inUse();
        due("DAY", () -> x.many(0), 35);
        due("TIDE", () -> x.tide(35), 2);
        for (int pan = 5; pan < 8; pan++) {
            int it = pan;
            due("PAN " + pan, () -> pond(x, it), "[1, 1, 300, 8, 120, 0, 300, 32, 1, 84, 0]");
        }
    }

    private static void changes01Area() {
        SaltRow x = new SaltRow();
        x.gate(6, true);
        x.cover(6, true);
        x.family();
        x.right(0, 6, 5);
        changes("AREA", x, () -> x.area(6, 9), 3, "POND 6, 0: 9");
        changes("the same", x, () -> x.area(6, 9), 9);
    }

    private static void changes02Gate() {
        SaltRow x = inUse();
        changes("a GATE of a PAN that is COVERED", x, () -> x.gate(5, true), false, "many 2: 226");
        SaltRow y = inUse();
        changes("it is shut", y, () -> y.gate(6, false), true, "many 2: 130");
    }

    private static void changes03Cover() {
        SaltRow x = inUse();
        changes("a COVER of a PAN with an open GATE", x, () -> x.cover(7, true), false, "many 3: 224");
        SaltRow y = inUse();
        changes("it is uncovered", y, () -> y.cover(6, false), true, "many 3: 32");
    }

    private static void changes04PassOfAnEmptyRow() {
        SaltRow x = new SaltRow();
        x.gate(4, true);
        x.cover(5, true);
        x.family();
        x.right(0, 5, 12);
        changes("DAYS", x, () -> x.pass(30, 9, 9, 0), 0, "many 0: 30");
    }

    private static void changes05PassOfADayWithoutAnything() {
        SaltRow x = inUse();
        for (int pond = 0; pond < 8; pond++) {
            x.skim(pond);
            x.gate(pond, false);
        }
        x.harvest(5, false);
        x.flower(7);
        changes("a DAY", x, () -> x.pass(1, 0, 0, 0), 0, "many 0: 36", "POND 5, 10: 0", "POND 7, 10: 0");
    }

    private static void changes06Skim() {
        SaltRow x = inUse();
        due("FRESH in each of 5 PONDS", () -> x.many(15), 5 * 5);
        changes("SKIM", x, () -> x.skim(3), 5, "many 15: 20", "many 16: 5", "POND 3, 5: 0");
    }

    private static void changes07Drain() {
        SaltRow x = inUse();
        x.harvest(6, false);
        changes("DRAIN of a PAN that was harvested", x, () -> x.drain(6), 1, "many 5: 600", "many 9: 300",
                "many 14: " + (x.many(14) - 1), "POND 6, 1: 0", "POND 6, 2: 0", "POND 6, 3: 0", "POND 6, 4: 0",
                "POND 6, 8: 0", "POND 6, 9: 0");
    }

    private static void changes08Pump() {
        SaltRow x = inUse();
        x.harvest(6, false);
        x.flower(5);
        changes("PUMP of a PAN that was harvested into another", x, () -> x.pump(6, 5, 1), 83, "many 17: -7",
                "POND 5, 1: 2", "POND 5, 2: 597", "POND 5, 3: 16", "POND 5, 4: 240", "POND 5, 8: 2",
                "POND 6, 1: 0", "POND 6, 2: 0", "POND 6, 3: 0", "POND 6, 4: 0", "POND 6, 8: 0", "POND 6, 9: 0");
    }

    private static void changes09Family() {
        SaltRow x = inUse();
        changes("FAMILY", x, () -> x.family(), 2, "many 1: 3");
    }

    private static void changes10Right() {
        SaltRow x = inUse();
        x.harvest(6, false);
        changes("RIGHTS behind a HARVEST", x, () -> x.right(1, 6, 0), 6, "FAMILY 1, PAN 6: 0");
    }

    private static void changes11Harvest() {
        SaltRow x = inUse();
        // 200 of 300, 32 times 200 by 300; 180 and 21 times 3 and 6 by 12
        changes("by RAKES", x, () -> x.harvest(6, false), 200, "many 6: 700", "many 7: 135", "many 10: 20", "many 11: 45",
                "many 12: 75", "many 13: 6", "POND 6, 6: 100", "POND 6, 7: 11", "POND 6, 10: 1", "FAMILY 0, 0: 45",
                "FAMILY 0, 1: 5", "FAMILY 0, 2: 90", "FAMILY 0, 4: 45", "FAMILY 1, 0: 90", "FAMILY 1, 1: 10",
                "FAMILY 1, 2: 90", "FAMILY 1, 4: 90");
        SaltRow y = inUse();
        // 300, 32 and 10 more from the floor; 270 and 42 times 4 and 7 by 12
        changes("by a MACHINE", y, () -> y.harvest(7, true), 300, "many 6: 600", "many 7: 247", "many 10: 30", "many 11: 23",
                "many 12: 64", "many 13: 4", "POND 7, 6: 0", "POND 7, 7: 0", "POND 7, 10: 1", "FAMILY 0, 0: 90",
                "FAMILY 0, 1: 14", "FAMILY 0, 2: 86", "FAMILY 0, 4: 90", "FAMILY 1, 0: 157", "FAMILY 1, 1: 24",
                "FAMILY 1, 2: 86", "FAMILY 1, 4: 157");
    }

    private static void changes12Flower() {
        SaltRow x = inUse();
        // 3 times 3 and 6 by 12
        changes("FLOWERS", x, () -> x.flower(6), 3, "many 5: 897", "many 7: 1", "many 11: 2", "POND 6, 2: 297",
                "POND 6, 9: 83", "POND 6, 10: 1", "FAMILY 1, 0: 1", "FAMILY 1, 2: 100", "FAMILY 1, 4: 1");
    }

    private static void changes13Wash() {
        SaltRow x = inUse();
        x.harvest(6, false);
        changes("WASH", x, () -> x.wash(1), 94, "many 7: 130", "many 9: 5", "FAMILY 1, 0: 85", "FAMILY 1, 1: 5",
                "FAMILY 1, 2: 94");
    }

    private static void changes14Sell() {
        SaltRow x = inUse();
        x.harvest(6, false);
        // half of 18 times 50 by 10; 10 times 18 by 90
        changes("SELL", x, () -> x.sell(1, 18, 50), 45, "many 7: 117", "many 8: 18", "FAMILY 1, 0: 72", "FAMILY 1, 1: 8",
                "FAMILY 1, 3: 45", "FAMILY 1, 5: 18");
    }

    // ---- each POND, each GATE

    /** The POND (or PAN) has 20 of the SEA's BRINE; its DAY is 1. What is over is in a POND behind it or ahead of it. */
    private static SaltRow with20In(int pond) {
        SaltRow x = withSea();
        if (pond > 0) {
            x.pump(0, pond, 20);
        } else {
            x.pump(0, 1, 40);
        }
        return x;
    }

    private static void eachPond1MineralsFall() {
        for (int pond = 0; pond < 8; pond++) {
            SaltRow x = with20In(pond);
            int it = pond;
            due("told of PANS alone, POND " + pond, () -> x.pass(30, 9, 9, 0), it < 5 ? 0 : 300);
            due("POND " + pond, () -> pond(x, it), "[3, 1, 300, 8, 120, 0, 300, 32, 0, 84, 0]");
            x.pass(1, 0, 0, 40);
            due("24 of the CRUST go back, POND " + pond, () -> pond(x, it), "[3, 7, 324, 8, 120, 6, 276, 32, 2, 12, 0]");
        }
    }

    private static void eachPond2Dries() {
        for (int pond = 0; pond < 8; pond++) {
            SaltRow x = with20In(pond);
            x.pass(1, 9, 9, 0);
            int it = pond;
            due("54 times 93 by 1000 of 20, POND " + pond, () -> x.ofPond(it, 1), 14);
        }
    }

    private static void eachPond3RainFallsAndIsSkimmed() {
        SaltRow x = new SaltRow();
        x.pass(1, 0, 0, 40);
        for (int pond = 0; pond < 8; pond++) {
            int it = pond;
            due("6 mix, POND " + pond, () -> pond(x, it), "[3, 6, 0, 0, 0, 6, 0, 0, 2, 0, 0]");
            due("6 are SKIMMED", () -> x.skim(it), 6);
        }
        due("in all", () -> x.many(16), 48);
    }

    private static void eachPond4IsDrained() {
        for (int pond = 0; pond < 8; pond++) {
            SaltRow x = with20In(pond);
            x.pass(2, 0, 0, 0);
            int it = pond;
            refused("TIDE 6, POND " + pond, x, () -> x.drain(it), STATE);
            x.pass(4, 0, 0, 0);
            due("TIDE 2, POND " + pond, () -> x.drain(it), 20);
            due("SALT is LOST", () -> x.many(9), 600);
        }
    }

    private static void eachPond5IsPumpedIntoEachOther() {
        for (int from = 0; from < 8; from++) {
            SaltRow x = with20In(from);
            int ahead = x.ofPond(0, 1) + x.ofPond(1, 1) - (from < 2 ? x.ofPond(from, 1) : 0);
            int it = from;
            due("what is over", () -> ahead, 40);
            for (int to = 0; to < 8; to++) {
                int other = to;
                if (from == to) {
                    refused("the same, " + from, x, () -> x.pump(it, it, 1), ARGUMENT);
                } else {
                    due(from + " into " + to, () -> x.pump(it, other, 2), 7);
                }
            }
            due("7 times 2 of 20 are gone, of " + from, () -> pond(x, it), "[3, 6, 180, 12, 36, 0, 0, 0, 2, 7, 0]");
        }
    }

    private static void eachGateLeadsFromThePondAhead() {
        for (int gate = 1; gate < 8; gate++) {
            SaltRow x = withSea();
            x.pump(0, gate == 1 ? 7 : gate - 1, 30);
            x.gate(gate, true);
            int it = gate;
            String others = "";
            for (int pond = 0; pond < 8; pond++) {
                others += pond == gate || pond == gate - 1 ? "" : pond(x, pond);
            }
            x.pass(1, 0, 0, 0);
            due("half of 30, ahead of " + gate, () -> pond(x, it - 1), "[3, 15, 450, 30, 90, 0, 0, 0, 5, 7, 0]");
            due("half of 30, in " + gate, () -> pond(x, it), "[3, 15, 450, 30, 90, 0, 0, 0, 5, 7, 0]");
            String now = "";
            for (int pond = 0; pond < 8; pond++) {
                now += pond == gate || pond == gate - 1 ? "" : pond(x, pond);
            }
            String are = now;
            due("the others", () -> are, others);
        }
    }

    private static void gateOfACoveredPanLetsBrineIn() {
        for (int pan = 5; pan < 8; pan++) {
            SaltRow x = withSea();
            x.pump(0, pan - 1, 30);
            x.cover(pan, true);
            x.gate(pan, true);
            x.pass(1, 0, 0, 0);
            int it = pan;
            due("PAN " + pan, () -> x.ofPond(it, 1), 15);
        }
    }

    // ---- what comes ahead of what in a DAY

    private static void dayFlowIsAheadOfDrying() {
        SaltRow x = withSea();
        x.gate(1, true);
        x.pass(1, 9, 9, 0);
        // 30 of 60 flow; 54 times 93 by 1000 of each 30 dry
        due("ahead", () -> x.ofPond(0, 1), 24);
        due("behind", () -> x.ofPond(1, 1), 24);
    }

    private static void dayRainIsBehindTheFlow() {
        SaltRow x = twoPonds(9, 27, 9, 18);
        x.gate(3, true);
        x.pass(1, 0, 0, 40);
        // LEVELS 3 and 2: 9 by 2; then 36 of FRESH each, of which half mixes
        due("ahead", () -> x.ofPond(2, 1) * 100 + x.ofPond(2, 5), 4118);
        due("behind", () -> x.ofPond(3, 1) * 100 + x.ofPond(3, 5), 4018);
    }

    private static void dayMineralsFallBehindTheMixing() {
        SaltRow x = withSea();
        x.pump(0, 5, 20);
        x.pass(5, 9, 5, 0);
        due("BRINE 2 holds 600", () -> pond(x, 5), "[3, 2, 600, 16, 120, 0, 0, 24, 0, 72, 0]");
        // a force of 3 takes no FRESH and 1 of BRINE; 1 of FRESH mixes
        due("1 dries, 1 mixes: nothing falls", () -> x.pass(1, 1, 0, 4), 0);
        due("BRINE 2 still holds it", () -> pond(x, 5), "[3, 2, 600, 16, 120, 0, 0, 24, 0, 72, 0]");
        due("without RAIN it falls", () -> x.pass(1, 1, 0, 0), 300);
    }

    private static void dayOfAllSixSteps() {
        SaltRow x = withMixtures(2);
        x.pump(7, 4, 60);
        x.pump(7, 5, 30);
        x.cover(5, false);
        x.gate(0, true);
        x.gate(5, true);
        // DAY 3, TIDE 6: the POND 0 has 18 of BRINE and 18 of FRESH, its AREA is 9: (60 - 2) * 9 / 4 come, 130. 36 of
        // FRESH more, a force of 90 takes 9 of 54; 23 mix
        // the POND 4 (AREA 3) has 66 and 6 of FRESH: LEVEL 22 into LEVEL 15: 7 * 2 / 2 go; 12 of FRESH more, 3 dry, 8 mix
        // the PAN 5 has 30 and no FRESH; 8 of FRESH more, 2 dry, 3 mix
        int salt0 = x.ofPond(0, 2);
        int salt4 = x.ofPond(4, 2);
        due("ahead", () -> x.ofPond(0, 1) * 10000 + x.ofPond(4, 1) * 100 + x.ofPond(5, 1), 186630);
        due("FRESH ahead", () -> x.ofPond(0, 5) * 100 + x.ofPond(4, 5) * 10 + x.ofPond(5, 5), 1860);
        x.pass(1, 6, 4, 40);
        due("the SEA", () -> x.ofPond(0, 2) - salt0, 130 * 30);
        due("the POND 0", () -> x.ofPond(0, 1) * 100 + x.ofPond(0, 5), (18 + 130 + 23) * 100 + 22);
        due("the POND 4", () -> x.ofPond(4, 1) * 100 + x.ofPond(4, 5), (66 - 7 + 8) * 100 + 7);
        due("the PAN 5", () -> x.ofPond(5, 1) * 100 + x.ofPond(5, 5), (30 + 7 + 3) * 100 + 3);
        due("SHARE of 7 in 66", () -> salt4 - x.ofPond(4, 2), salt4 * 7 / 66);
    }

    // ---- each PAN, each FAMILY

    private static void eachPan1IsSharedByItsOwnRights() {
        int[][] byRakes = {{30, 3, 75, 8}, {45, 5, 90, 10}, {60, 7, 105, 12}};
        int[][] byMachine = {{45, 7, 112, 17}, {67, 10, 135, 21}, {90, 14, 157, 24}};
        for (int pan = 5; pan < 8; pan++) {
            SaltRow x = inUse();
            SaltRow y = inUse();
            int it = pan;
            due("by RAKES, PAN " + pan, () -> x.harvest(it, false), 200);
            due("by a MACHINE, PAN " + pan, () -> y.harvest(it, true), 300);
            for (int k = 0; k < 2; k++) {
                int family = k;
                due("by RAKES", () -> x.ofFamily(family, 0), byRakes[pan - 5][2 * k]);
                due("by RAKES, DIRT", () -> x.ofFamily(family, 1), byRakes[pan - 5][2 * k + 1]);
                due("by a MACHINE", () -> y.ofFamily(family, 0), byMachine[pan - 5][2 * k]);
                due("by a MACHINE, DIRT", () -> y.ofFamily(family, 1), byMachine[pan - 5][2 * k + 1]);
            }
        }
    }

    private static void eachPan2FlowersAreSharedByItsOwnRights() {
        int[][] of = {{0, 1}, {0, 1}, {1, 1}};
        for (int pan = 5; pan < 8; pan++) {
            SaltRow x = inUse();
            int it = pan;
            due("PAN " + pan, () -> x.flower(it), 3);
            due("both", () -> x.ofFamily(0, 0) * 10 + x.ofFamily(1, 0), of[it - 5][0] * 10 + of[it - 5][1]);
        }
    }

    private static void eachPan3WouldBeAsItIs() {
        for (int pan = 5; pan < 8; pan++) {
            for (int k = 0; k < 4; k++) {
                SaltRow x = inUse();
                SaltRow y = inUse();
                boolean isMachine = k % 2 == 1;
                int family = k / 2;
                int it = pan;
                if (pan == 7) {
                    x.harvest(6, true);
                    y.harvest(6, true);
                }
                y.harvest(pan, isMachine);
                unchanged("PAN " + pan, x, () -> x.wouldBe(it, isMachine, family), y.ofFamily(family, 2));
            }
        }
    }

    private static void eachPan4WouldBeByHand() {
        // 30 and 3, 45 and 5, 60 and 7; 45 and 7, 67 and 10, 90 and 14
        int[] byRakes = {90, 90, 89};
        int[] byMachine = {86, 87, 86};
        for (int pan = 5; pan < 8; pan++) {
            SaltRow x = inUse();
            int it = pan;
            due("by RAKES, PAN " + pan, () -> x.wouldBe(it, false, 0), byRakes[pan - 5]);
            due("by a MACHINE, PAN " + pan, () -> x.wouldBe(it, true, 0), byMachine[pan - 5]);
        }
    }

    private static void eachPan5IsCoveredByItself() {
        for (int pan = 5; pan < 8; pan++) {
            SaltRow x = new SaltRow();
            x.cover(pan, true);
            x.pass(1, 0, 0, 40);
            for (int other = 5; other < 8; other++) {
                int it = other;
                due("FRESH of " + other + ", COVERED is " + pan, () -> x.ofPond(it, 5), other == pan ? 0 : 6);
            }
        }
    }

    private static void eachFamilyHasAHeap() {
        SaltRow x = withCrust(8);
        for (int k = 0; k < 6; k++) {
            x.family();
            x.right(k, 5, 2);
        }
        x.pass(1, 9, 0, 0);
        due("24", () -> x.flower(5), 24);
        due("4 on each HEAP", () -> x.many(7), 24);
        int[] sold = {1, 2, 3, 4, 1, 2};
        int sum = 0;
        for (int k = 0; k < 6; k++) {
            int it = k;
            due("FAMILY " + k, () -> family(x, it), "[4, 0, 100, 0, 4, 0]");
            due("COINS of " + sold[k], () -> x.sell(it, sold[it], 50), 5 * sold[k]);
            sum += sold[k];
            int all = sum;
            due("SOLD by all", () -> x.many(8), all);
            due("on all HEAPS", () -> x.many(7), 24 - all);
            due("FAMILY " + k, () -> family(x, it), "[" + (4 - sold[it]) + ", 0, " + (sold[it] < 4 ? 100 : 0) + ", "
                    + 5 * sold[it] + ", 4, " + sold[it] + "]");
        }
    }

    private static void eachFamilyIsWashedByItself() {
        SaltRow x = withCrust(9);
        for (int k = 0; k < 6; k++) {
            x.family();
            x.right(k, 5, 2);
        }
        x.harvest(5, false);
        // 1350 and 272 times 2 by 12
        for (int k = 0; k < 6; k++) {
            int it = k;
            due("FAMILY " + k, () -> family(x, it), "[225, 45, 83, 0, 225, 0]");
            due("WASHED", () -> x.wash(it), 90);
            due("12 and 23 less", () -> family(x, it), "[213, 22, 90, 0, 225, 0]");
            due("LOST", () -> x.many(9), 12 * (it + 1));
        }
    }

    // ---- what is harvested

    private static void harvestOfADrainedPan() {
        SaltRow x = withCrust(1);
        x.drain(5);
        due("the CRUST stays", () -> x.harvest(5, false), 200);
    }

    private static void harvestOfACoveredPan() {
        SaltRow x = withCrust(1);
        x.cover(5, true);
        due("its CRUST", () -> x.harvest(5, false), 200);
        x.pass(1, 6, 2, 0);
        due("its FLOWERS", () -> x.flower(5), 3);
    }

    private static void harvestIsOverWithTheDayWhateverItsWeather() {
        int[][] weather = {{0, 0, 0}, {9, 9, 0}, {0, 0, 1}, {9, 2, 1}};
        for (int[] of : weather) {
            SaltRow x = withCrust(1);
            x.harvest(5, false);
            x.pass(1, of[0], of[1], of[2]);
            due("not harvested yet", () -> x.ofPond(5, 10), 0);
            due("again", () -> x.harvest(5, false), 200);
        }
    }

    // ---- what would be

    /** The PAN 5 has a CRUST of 1500, FRESH of 6, and of another PAN BRINE 1 with 300, 8 and 200; it is DAY 76. */
    private static SaltRow freshOnACrust() {
        SaltRow x = new SaltRow();
        x.area(0, 9);
        letSeaIn(x);
        x.pump(0, 5, 60);
        x.pump(0, 6, 60);
        x.cover(6, true);
        x.pass(30, 9, 9, 0);
        x.pass(30, 9, 9, 0);
        x.pass(14, 0, 0, 0);
        x.pass(1, 0, 0, 40);
        x.drain(5);
        x.pump(6, 5, 1);
        return x;
    }

    private static void crustInIsOfSaltThatFallsThoughTheCrustIsNoMore() {
        SaltRow x = freshOnACrust();
        due("ahead", () -> pond(x, 5), "[3, 1, 300, 8, 200, 6, 1476, 272, 0, 90, 0]");
        SaltRow y = freshOnACrust();
        due("5 of FRESH dry, 1 mixes", () -> y.pass(1, 9, 9, 0), 0);
        due("2 hold 304", () -> pond(y, 5), "[3, 2, 304, 8, 200, 0, 1472, 272, 0, 50, 0]");
        due("what went back falls", () -> y.pass(1, 9, 9, 0), 4);
        due("no more than ahead", () -> pond(y, 5), "[3, 1, 300, 8, 200, 0, 1476, 272, 0, 90, 0]");
        unchanged("behind two DAYS", x, () -> x.crustIn(5, 9, 9), 2);
    }

    private static void crustInOfACoveredPanIsTheSame() {
        SaltRow x = withSea();
        x.pump(0, 5, 20);
        x.cover(5, true);
        unchanged("COVERED", x, () -> x.crustIn(5, 9, 9), 6);
        x.cover(5, false);
        unchanged("not COVERED", x, () -> x.crustIn(5, 9, 9), 6);
    }

    private static void crustInOfEachPan() {
        for (int pan = 5; pan < 8; pan++) {
            SaltRow x = with20In(pan);
            for (int other = 5; other < 8; other++) {
                int it = other;
                unchanged("of " + other + ", with BRINE in " + pan, x, () -> x.crustIn(it, 9, 9), it == pan ? 6 : NONE);
            }
        }
    }

    private static void bestGatesWhateverIsOpenNow() {
        for (int set = 0; set < 256; set += 17) {
            SaltRow x = withSea();
            x.pump(0, 4, 30);
            for (int pond = 0; pond < 8; pond++) {
                x.gate(pond, (set >> pond) % 2 == 1);
            }
            unchanged("with " + set, x, () -> x.bestGates(1, 0, 0), 32);
        }
    }

    private static void bestGatesCountsCoveredPans() {
        SaltRow x = withSea();
        x.pump(0, 4, 30);
        for (int pan = 5; pan < 8; pan++) {
            x.cover(pan, true);
        }
        unchanged("COVERED", x, () -> x.bestGates(1, 0, 0), 32);
    }

    /** The POND 4 has a CRUST and FRESH of 6, and no BRINE. */
    private static SaltRow freshOnACrustOfAPond() {
        SaltRow x = withSea();
        x.pump(0, 4, 60);
        x.pass(30, 9, 9, 0);
        x.pass(30, 9, 9, 0);
        x.pass(14, 0, 0, 0);
        x.pass(1, 0, 0, 40);
        for (int pond = 0; pond < 8; pond++) {
            x.drain(pond);
            if (pond != 4) {
                x.skim(pond);
            }
        }
        return x;
    }

    private static void bestGatesWithFreshThatMixes() {
        SaltRow x = freshOnACrustOfAPond();
        due("FRESH alone", () -> x.many(14) * 100 + x.many(15), 6);
        // 3 mix with 12 of the CRUST on the first DAY; of LEVEL 1 flows 1 with 4 on the second
        unchanged("1 DAY", x, () -> x.bestGates(1, 0, 0), 0);
        unchanged("2 DAYS", x, () -> x.bestGates(2, 0, 0), 32);
        x.skim(4);
        unchanged("without FRESH", x, () -> x.bestGates(2, 0, 0), 0);
    }
}
