/** A test of its own for each boundary case that the document's terms (its sections 1 to 4) name. */
public final class TermsTest extends Checks {
    public static void main(String[] args) {
        runAll(TermsTest.class);
    }

    // ---- 1. the row

    private static void row01AreaIs3AtFirst() {
        SaltRow x = new SaltRow();
        for (int pond = 0; pond < 8; pond++) {
            int it = pond;
            due("POND " + pond, () -> x.ofPond(it, 0), 3);
        }
    }

    private static void row02NothingIsInAPondAtFirst() {
        SaltRow x = new SaltRow();
        for (int pond = 0; pond < 8; pond++) {
            for (int what = 1; what <= 10; what++) {
                int it = pond;
                int asked = what;
                due("POND " + pond + ", " + what, () -> x.ofPond(it, asked), 0);
            }
        }
    }

    private static void row03GatesAreShutAtFirst() {
        SaltRow x = new SaltRow();
        due("the set", () -> x.many(2), 0);
        x.pass(1, 0, 0, 0);
        due("no BRINE comes", () -> x.many(14) + x.many(4), 0);
    }

    private static void row04PansAreNotCoveredAtFirst() {
        SaltRow x = new SaltRow();
        due("the set", () -> x.many(3), 0);
        x.pass(1, 0, 0, 40);
        due("RAIN falls into all of them", () -> x.ofPond(5, 5) + x.ofPond(6, 5) + x.ofPond(7, 5), 18);
    }

    private static void row05OneOfTheSeasBrine() {
        SaltRow x = new SaltRow();
        letSeaIn(x);
        x.pump(0, 1, 1);
        due("30 of SALT, 2 of GYPSUM, 6 of BITTER", () -> pond(x, 1), "[3, 1, 30, 2, 6, 0, 0, 0, 0, 7, 0]");
        due("of 60 in all", () -> x.many(4), 1800);
    }

    private static void row06LevelOfNoBrine() {
        SaltRow x = twoPonds(9, 0, 1, 1);
        due("AREA 9, no BRINE", () -> x.ofPond(2, 8), 0);
        due("AREA 1, BRINE 1", () -> x.ofPond(3, 8), 1);
    }

    private static void row07LevelIsRoundedDown() {
        int[] brine = {1, 8, 9, 17, 18, 80, 81};
        int[] level = {0, 0, 1, 1, 2, 8, 9};
        for (int k = 0; k < brine.length; k++) {
            SaltRow x = twoPonds(9, brine[k], 3, 0);
            due("AREA 9, BRINE " + brine[k], () -> x.ofPond(2, 8), level[k]);
        }
    }

    private static void row08StrengthWithoutBrine() {
        SaltRow x = new SaltRow();
        due("a new one", () -> x.ofPond(5, 9), 0);
        SaltRow y = withCrust(1);
        y.drain(5);
        due("with a CRUST, DRAINED", () -> pond(y, 5), "[1, 0, 0, 0, 0, 0, 1500, 272, 0, 0, 0]");
        SaltRow z = withCrust(1);
        z.pump(5, 0, 1);
        due("with a CRUST, PUMPED out", () -> pond(z, 5), "[1, 0, 0, 0, 0, 0, 1500, 272, 0, 0, 0]");
    }

    private static void row09StrengthOf89() {
        SaltRow x = dried(1, 24, 1, 1, 0);
        due("BRINE 1 with 300 and 149", () -> pond(x, 5), "[1, 1, 300, 8, 149, 0, 445, 41, 1, 89, 0]");
    }

    private static void row10StrengthOf90() {
        SaltRow x = dried(1, 25, 0, 0, 0);
        due("BRINE 1 with 300 and 150", () -> pond(x, 5), "[1, 1, 300, 8, 150, 0, 450, 42, 1, 90, 0]");
    }

    private static void row11StrengthOf90AtMost() {
        SaltRow x = dried(1, 26, 0, 0, 0);
        due("BRINE 1 with 300 and 156", () -> pond(x, 5), "[1, 1, 300, 8, 156, 0, 480, 44, 1, 90, 0]");
        SaltRow y = withCrust(1);
        due("BRINE 1 with 300 and 200", () -> y.ofPond(5, 9), 90);
        SaltRow z = dried(1, 26, 0, 0, 0);
        due("PUMPED into an empty one", () -> z.pump(5, 6, 1), 90);
        due("there", () -> pond(z, 6), "[3, 1, 300, 8, 156, 0, 0, 0, 0, 90, 0]");
    }

    private static void row12StrengthIsRoundedDown() {
        SaltRow x = mixed(1, 0, 0, 1, 0);
        due("12 of one BRINE", () -> x.ofPond(5, 9), 2);
        SaltRow y = mixed(1, 0, 0, 0, 4);
        due("4 of 4", () -> y.ofPond(5, 9), 0);
        SaltRow z = withSea();
        due("36 of each", () -> z.ofPond(0, 9), 7);
    }

    private static void row13ShareOfAll() {
        SaltRow x = withSea();
        x.pass(1, 9, 9, 0);
        x.pump(0, 1, 54);
        due("all goes", () -> pond(x, 0), "[3, 0, 0, 0, 0, 0, 0, 0, 0, 0, 0]");
        due("and comes", () -> pond(x, 1), "[3, 54, 1800, 120, 360, 0, 0, 0, 18, 8, 0]");
    }

    private static void row14ShareOfLessThanOne() {
        SaltRow x = mixed(1, 0, 0, 0, 7);
        due("30, 2 and 6 in 19: one each of SALT alone", () -> pond(x, 5), "[1, 7, 7, 0, 0, 0, 0, 0, 7, 0, 0]");
        due("the rest stays", () -> pond(x, 3), "[9, 12, 23, 2, 6, 18, 0, 0, 1, 0, 0]");
    }

    private static void row15ShareIsDividedByBrineAheadOfThat() {
        SaltRow x = withSea();
        x.pass(1, 9, 9, 0);
        x.pump(0, 1, 27);
        due("half of 54", () -> pond(x, 1), "[3, 27, 900, 60, 180, 0, 0, 0, 9, 8, 0]");
        x.pump(0, 2, 26);
        // 900, 60 and 180 times 26, by 27
        due("26 of 27", () -> pond(x, 2), "[3, 26, 866, 57, 173, 0, 0, 0, 8, 7, 0]");
        due("what stays of them", () -> pond(x, 0), "[3, 1, 34, 3, 7, 0, 0, 0, 0, 8, 0]");
    }

    private static void row16TideOfAllDays() {
        SaltRow x = new SaltRow();
        int[] tides = {9, 8, 7, 6, 5, 4, 3, 2, 3, 4, 5, 6, 7, 8};
        for (int day = 0; day <= 28; day++) {
            int it = day;
            due("DAY " + day, () -> x.tide(it), tides[day % 14]);
        }
    }

    private static void row17DayIs0AtFirst() {
        due("DAY", () -> new SaltRow().many(0), 0);
    }

    private static void row18DayIs5000AtMost() {
        SaltRow x = emptyOn(4999);
        due("4999", () -> x.many(0), 4999);
        due("one more", () -> x.pass(1, 9, 9, 40), 0);
        due("5000", () -> x.many(0), 5000);
        refused("no more", x, () -> x.pass(1, 9, 9, 40), STATE);
        due("still 5000", () -> x.many(0), 5000);
    }

    // ---- 2. a day: (1) the sea

    /** On DAY 6, with the TIDE of DAY 7 of 2: the POND 0 has an AREA of 4 and this BRINE. */
    private static SaltRow aheadOfLowTide(int brine) {
        SaltRow x = new SaltRow();
        x.area(0, 4);
        x.gate(0, true);
        x.pass(2, 0, 0, 0);
        x.gate(0, false);
        x.pass(4, 0, 0, 0);
        // 80 on DAY 1, (70 - 20) * 4 / 4 more on DAY 2
        x.pump(0, 1, 130 - brine);
        x.gate(0, true);
        return x;
    }

    private static void sea1LevelOfTheTide() {
        SaltRow x = aheadOfLowTide(80);
        x.pass(1, 0, 0, 0);
        due("LEVEL 20 at TIDE 2", () -> x.ofPond(0, 1), 80);
        due("nothing came", () -> x.many(4), 130 * 30);
    }

    private static void sea2OneBelowTheTide() {
        SaltRow x = aheadOfLowTide(79);
        x.pass(1, 0, 0, 0);
        due("LEVEL 19 at TIDE 2", () -> pond(x, 0), "[4, 80, 2400, 160, 480, 0, 0, 0, 20, 7, 0]");
        due("one came", () -> x.many(4), 131 * 30);
    }

    private static void sea3AboveTheTide() {
        for (int brine : new int[] {81, 84, 129}) {
            SaltRow x = aheadOfLowTide(brine);
            x.pass(1, 0, 0, 0);
            due("BRINE " + brine + " at TIDE 2", () -> x.ofPond(0, 1), brine);
            due("nothing came or went", () -> x.many(4), 130 * 30);
        }
    }

    /** On DAY 7, with a TIDE of 2, behind a DAY with the GATE open: the POND 0 of an AREA of 1 had this BRINE. */
    private static int atLowTideWithArea1(int brine) {
        SaltRow x = new SaltRow();
        x.area(0, 1);
        letSeaIn(x);
        x.pass(5, 0, 0, 0);
        if (brine < 20) {
            x.pump(0, 1, 20 - brine);
        }
        x.gate(0, true);
        x.pass(1, 0, 0, 0);
        return x.ofPond(0, 1);
    }

    private static void sea4LessThanOneComes() {
        due("no difference", () -> atLowTideWithArea1(20), 20);
        due("1 times 1, by 4", () -> atLowTideWithArea1(19), 19);
        due("3 times 1, by 4", () -> atLowTideWithArea1(17), 17);
        due("4 times 1, by 4", () -> atLowTideWithArea1(16), 17);
        due("7 times 1, by 4", () -> atLowTideWithArea1(13), 14);
        due("8 times 1, by 4", () -> atLowTideWithArea1(12), 14);
    }

    private static void sea5GateShut() {
        SaltRow x = new SaltRow();
        for (int pond = 1; pond < 8; pond++) {
            x.gate(pond, true);
        }
        x.pass(1, 0, 0, 0);
        due("all others open", () -> x.many(14) + x.many(4), 0);
    }

    private static void sea6TideIsThatOfTheNewDay() {
        SaltRow x = new SaltRow();
        x.area(0, 4);
        letSeaIn(x);
        due("TIDE 8 of DAY 1, not 9", () -> x.ofPond(0, 1), 80);
        SaltRow y = emptyOn(13);
        letSeaIn(y);
        due("TIDE 9 of DAY 14", () -> y.ofPond(0, 1), 67);
    }

    // ---- 2. a day: (2) gate by gate

    private static void flow1SameLevel() {
        SaltRow x = twoPonds(9, 27, 1, 3);
        x.gate(3, true);
        x.pass(1, 0, 0, 0);
        due("LEVEL 3 both", () -> x.ofPond(2, 1) * 100 + x.ofPond(3, 1), 2703);
    }

    private static void flow2LevelBelow() {
        SaltRow x = twoPonds(9, 30, 1, 4);
        x.gate(3, true);
        x.pass(1, 0, 0, 0);
        due("LEVEL 3 into LEVEL 4, with more BRINE", () -> x.ofPond(2, 1) * 100 + x.ofPond(3, 1), 3004);
    }

    private static void flow3OneAbove() {
        SaltRow x = twoPonds(9, 27, 1, 2);
        x.gate(3, true);
        x.pass(1, 0, 0, 0);
        due("1 times 1, by 2", () -> x.ofPond(2, 1) * 100 + x.ofPond(3, 1), 2702);
        SaltRow y = twoPonds(2, 6, 9, 18);
        y.gate(3, true);
        y.pass(1, 0, 0, 0);
        due("1 times 2, by 2", () -> y.ofPond(2, 1) * 100 + y.ofPond(3, 1), 519);
        SaltRow z = twoPonds(1, 5, 1, 2);
        z.gate(3, true);
        z.pass(1, 0, 0, 0);
        due("3 times 1, by 2", () -> z.ofPond(2, 1) * 100 + z.ofPond(3, 1), 403);
    }

    private static void flow4SmallerAreaOfBoth() {
        SaltRow x = twoPonds(9, 81, 2, 0);
        x.gate(3, true);
        x.pass(1, 0, 0, 0);
        due("9 times 2, by 2, from the larger", () -> x.ofPond(2, 1) * 100 + x.ofPond(3, 1), 7209);
        SaltRow y = twoPonds(2, 18, 9, 0);
        y.gate(3, true);
        y.pass(1, 0, 0, 0);
        due("9 times 2, by 2, from the smaller", () -> y.ofPond(2, 1) * 100 + y.ofPond(3, 1), 909);
    }

    private static void flow5GateShut() {
        SaltRow x = twoPonds(9, 81, 9, 0);
        x.gate(2, true);
        x.gate(4, true);
        x.pass(1, 0, 0, 0);
        due("the others are open", () -> x.ofPond(2, 1) * 100 + x.ofPond(3, 1), 8100);
    }

    private static void flow6NoBrine() {
        SaltRow x = new SaltRow();
        for (int pond = 1; pond < 8; pond++) {
            x.gate(pond, true);
        }
        x.pass(30, 9, 9, 0);
        due("nothing flows of nothing", () -> x.many(14) + x.many(5), 0);
    }

    private static void flow7From7DownTo1() {
        SaltRow x = new SaltRow();
        for (int pond = 0; pond < 8; pond++) {
            x.gate(pond, true);
        }
        int[][] due = {{30, 30, 0, 0, 0, 0, 0, 0}, {45, 45, 15, 0, 0, 0, 0, 0}};
        for (int day = 1; day <= 2; day++) {
            x.pass(1, 0, 0, 0);
            for (int pond = 0; pond < 8; pond++) {
                int it = pond;
                due("BRINE on DAY " + day, () -> x.ofPond(it, 1), due[day - 1][pond]);
            }
        }
        SaltRow y = new SaltRow();
        for (int pond = 0; pond < 8; pond++) {
            y.gate(pond, true);
        }
        y.pass(6, 0, 0, 0);
        due("not yet in the PAN 7 on DAY 6", () -> y.ofPond(7, 1), 0);
        y.pass(30, 0, 0, 0);
        due("there, later", () -> y.ofPond(7, 1) > 0, true);
    }

    private static void flow8SharesGoWithIt() {
        SaltRow x = withMixtures(3);
        x.gate(2, true);
        x.pass(1, 0, 0, 0);
        // 36 with LEVEL 4 into 27 with LEVEL 3: 1 times 9, by 2; each has 9 of its FRESH mixed then
        due("from the POND 1", () -> pond(x, 1), "[9, 41, 480, 32, 96, 9, 0, 0, 4, 2, 0]");
        due("into the POND 2", () -> pond(x, 2), "[9, 40, 330, 22, 66, 9, 0, 0, 4, 1, 0]");
    }

    // ---- 2. a day: (3) rain

    private static void rain1None() {
        SaltRow x = new SaltRow();
        x.pass(30, 0, 0, 0);
        due("no FRESH, no BRINE", () -> x.many(15) + x.many(14), 0);
    }

    private static void rain2LessThanOne() {
        SaltRow x = new SaltRow();
        x.area(0, 9);
        x.area(1, 1);
        x.pass(1, 0, 0, 1);
        due("1 times 9, by 10", () -> pond(x, 0), "[9, 0, 0, 0, 0, 0, 0, 0, 0, 0, 0]");
        x.pass(1, 0, 0, 9);
        due("9 times 1, by 10", () -> pond(x, 1), "[1, 0, 0, 0, 0, 0, 0, 0, 0, 0, 0]");
    }

    private static void rain3JustOne() {
        SaltRow x = new SaltRow();
        x.area(0, 1);
        x.pass(1, 0, 0, 10);
        due("10 times 1, by 10, mixes", () -> pond(x, 0), "[1, 1, 0, 0, 0, 0, 0, 0, 1, 0, 0]");
    }

    private static void rain4Most() {
        SaltRow x = new SaltRow();
        x.area(0, 9);
        x.pass(1, 0, 0, 40);
        due("40 times 9, by 10: half stays", () -> pond(x, 0), "[9, 18, 0, 0, 0, 18, 0, 0, 2, 0, 0]");
    }

    private static void rain5Covered() {
        SaltRow x = new SaltRow();
        x.cover(5, true);
        x.pass(1, 0, 0, 40);
        due("no FRESH", () -> x.ofPond(5, 5) + x.ofPond(5, 1), 0);
        due("the others have it", () -> x.ofPond(4, 5) + x.ofPond(6, 5), 12);
        x.cover(5, false);
        x.pass(1, 0, 0, 40);
        due("uncovered again", () -> x.ofPond(5, 5), 6);
    }

    private static void rain6CoveredDriesAllTheSame() {
        SaltRow x = twoPonds(1, 0, 1, 0);
        x.pump(0, 5, 20);
        x.pump(0, 6, 20);
        x.cover(5, true);
        x.pass(1, 9, 9, 0);
        due("both are less", () -> x.ofPond(5, 1) * 100 + x.ofPond(6, 1), 1414);
    }

    private static void rain7CoveredKeepsTheFreshThatItHas() {
        SaltRow x = new SaltRow();
        x.pass(1, 0, 0, 40);
        x.cover(7, true);
        x.pass(1, 0, 0, 0);
        due("it mixes all the same", () -> x.ofPond(7, 5) * 100 + x.ofPond(7, 1), 309);
    }

    // ---- 2. a day: (4) it dries

    /** The POND 0 has an AREA of 1, and of rain alone this BRINE (20 at most) with a STRENGTH of 0. */
    private static SaltRow withRain(int brine) {
        SaltRow x = new SaltRow();
        x.area(0, 1);
        for (int k = 0; k < brine; k++) {
            x.pass(1, 0, 0, 10);
        }
        return x;
    }

    private static int driedBy(int brine, int sun, int wind) {
        SaltRow x = withRain(brine);
        x.pass(1, sun, wind, 0);
        return brine - x.ofPond(0, 1);
    }

    private static void dry01NoForce() {
        due("nothing goes", () -> driedBy(20, 0, 0), 0);
    }

    private static void dry02RoundedUp() {
        due("1 times 100, by 1000", () -> driedBy(20, 1, 0), 1);
        due("WIND alone", () -> driedBy(20, 0, 1), 1);
        due("9 times 100, by 1000", () -> driedBy(20, 9, 0), 1);
    }

    private static void dry03JustOne() {
        due("10 times 100, by 1000", () -> driedBy(20, 9, 1), 1);
    }

    private static void dry04OneMore() {
        due("11 times 100, by 1000", () -> driedBy(20, 2, 9), 2);
        due("18 times 100, by 1000", () -> driedBy(20, 9, 9), 2);
    }

    private static void dry04OneMoreThanAThousand() {
        SaltRow x = twoPonds(1, 20, 1, 0);
        x.pass(4, 1, 0, 0);
        due("STRENGTH of 720, by 5 times 16", () -> x.ofPond(2, 1) * 100 + x.ofPond(2, 9), 1609);
        x.pass(1, 9, 2, 0);
        due("11 times 91, by 1000", () -> x.ofPond(2, 1), 14);
    }

    private static void dry05HalfOfTheBrineAtMost() {
        due("none of 1", () -> driedBy(1, 9, 9), 0);
        due("1 of 2", () -> driedBy(2, 9, 9), 1);
        due("1 of 3", () -> driedBy(3, 9, 9), 1);
        due("2 of 4", () -> driedBy(4, 9, 9), 2);
        due("2 of 5", () -> driedBy(5, 9, 9), 2);
    }

    private static void dry06OneIsNeverLess() {
        SaltRow x = withRain(1);
        x.pass(30, 9, 9, 0);
        due("BRINE", () -> x.ofPond(0, 1), 1);
    }

    private static void dry07NoBrine() {
        SaltRow x = new SaltRow();
        due("nothing goes of nothing", () -> x.pass(30, 9, 9, 0), 0);
        due("BRINE and FRESH", () -> x.many(14) + x.many(15), 0);
    }

    private static void dry08Strength90() {
        SaltRow x = new SaltRow();
        x.area(0, 9);
        x.area(5, 9);
        letSeaIn(x);
        x.pump(0, 5, 180);
        // a force of 162: times 93, 93, 92, 91, 90, 88, 86, 83, 79, 73, 63, 46, 27, 21 and 10 by 1000, then half
        int[] brine = {180, 164, 148, 133, 118, 103, 88, 74, 60, 47, 35, 24, 16, 11, 7, 5, 3, 2, 1, 1};
        for (int k = 0; k < brine.length; k++) {
            due("BRINE on DAY " + (k + 1), () -> x.ofPond(5, 1), brine[k]);
            x.pass(1, 9, 9, 0);
        }
        due("STRENGTH", () -> x.ofPond(5, 9), 90);
    }

    private static void dry09WaterAlone() {
        SaltRow x = withSea();
        x.pass(1, 9, 9, 0);
        due("SALT, GYPSUM and BITTER stay", () -> pond(x, 0), "[3, 54, 1800, 120, 360, 0, 0, 0, 18, 8, 0]");
    }

    /** The POND 0 has an AREA of 1, BRINE of 4 and FRESH of 4 of rain. */
    private static SaltRow withFresh() {
        SaltRow x = new SaltRow();
        x.area(0, 1);
        x.pass(2, 0, 0, 20);
        // 2 on the first DAY: 1 mixes, 1 stays; 3 on the second: 2 mix, 1 stays
        x.pass(1, 0, 0, 40);
        return x;
    }

    private static void dry10ForceBelow10TakesNoFresh() {
        SaltRow x = withFresh();
        due("ahead", () -> pond(x, 0), "[1, 6, 0, 0, 0, 2, 0, 0, 6, 0, 0]");
        x.pass(1, 9, 0, 0);
        due("9: none goes, 1 of BRINE dries, 1 mixes", () -> pond(x, 0), "[1, 6, 0, 0, 0, 1, 0, 0, 6, 0, 0]");
    }

    private static void dry11ForceOf10TakesOneFresh() {
        SaltRow x = withFresh();
        x.pass(1, 9, 1, 0);
        due("10: one goes, no BRINE dries, 1 mixes", () -> pond(x, 0), "[1, 7, 0, 0, 0, 0, 0, 0, 7, 0, 0]");
    }

    private static void dry12WhatIsLeftOfTheForce() {
        SaltRow x = withFresh();
        x.pass(1, 9, 2, 0);
        due("11: one goes, 1 of BRINE dries, 1 mixes", () -> pond(x, 0), "[1, 6, 0, 0, 0, 0, 0, 0, 6, 0, 0]");
    }

    private static void dry13AllFreshGoes() {
        SaltRow x = new SaltRow();
        x.area(0, 9);
        x.pass(1, 0, 0, 40);
        x.skim(0);
        // 4 of FRESH come; a tenth of 9 * 18 is 16: all 4 go, 122 times 100 by 1000 of 18
        x.pass(1, 9, 9, 5);
        due("FRESH of 4, force of 162", () -> pond(x, 0), "[9, 9, 0, 0, 0, 0, 0, 0, 1, 0, 0]");
        SaltRow y = new SaltRow();
        y.area(0, 9);
        y.pass(2, 0, 0, 40);
        y.skim(0);
        due("with 45", () -> y.ofPond(0, 1), 45);
        y.pass(1, 9, 9, 5);
        due("and 13 dry", () -> pond(y, 0), "[9, 32, 0, 0, 0, 0, 0, 0, 3, 0, 0]");
    }

    private static void dry14FreshAsMuchAsATenth() {
        SaltRow x = new SaltRow();
        x.area(0, 5);
        // FRESH of 9, a force of 90
        x.pass(1, 9, 9, 18);
        due("all 9 go, none mixes", () -> pond(x, 0), "[5, 0, 0, 0, 0, 0, 0, 0, 0, 0, 0]");
        SaltRow y = new SaltRow();
        y.area(0, 5);
        y.pass(1, 9, 9, 20);
        due("9 of 10 go, one mixes", () -> pond(y, 0), "[5, 1, 0, 0, 0, 0, 0, 0, 0, 0, 0]");
    }

    private static void dry15StrengthIsThatAheadOfIt() {
        SaltRow x = withSea();
        x.pump(0, 5, 4);
        x.pass(1, 0, 0, 0);
        // AREA 3: 54 times 93 by 1000 is 6 of 60 less 4, then with 1680, 336 in 50: 54 times 92
        x.pass(2, 9, 9, 0);
        due("two DAYS", () -> x.ofPond(0, 1), 56 - 6 - 5);
    }

    // ---- 2. a day: (5) fresh mixes

    private static void mix1NoFresh() {
        SaltRow x = withCrust(3);
        x.pass(1, 0, 0, 0);
        due("CRUST and BRINE stay", () -> pond(x, 5), "[3, 1, 300, 8, 200, 0, 1500, 272, 0, 90, 0]");
    }

    private static void mix2HalfRoundedUp() {
        int[] left = {0, 0, 1, 1, 2};
        for (int fresh = 1; fresh <= 4; fresh++) {
            SaltRow x = new SaltRow();
            x.area(0, 1);
            x.pass(1, 0, 0, 10 * fresh);
            int want = left[fresh] * 100 + fresh - left[fresh];
            due("FRESH of " + fresh, () -> x.ofPond(0, 5) * 100 + x.ofPond(0, 1), want);
        }
    }

    /** The PAN 5 with this AREA has a CRUST of 60, in BRINE 1 the SALT of 10 of the SEA's; not COVERED. */
    private static SaltRow withCrustOf(int salt, int area) {
        SaltRow x = dried(area, 10 + salt / 30, 0, 0, 0);
        x.cover(5, false);
        due("a CRUST of", () -> x.ofPond(5, 6), salt);
        return x;
    }

    private static void mix3CrustIsMoreThan4TimesAsMuch() {
        SaltRow x = withCrustOf(90, 9);
        x.pass(1, 0, 0, 34);
        due("15 of 30 mix: 60 of 90 go back", () -> pond(x, 5), "[9, 16, 360, 8, 78, 15, 30, 18, 1, 5, 0]");
    }

    private static void mix4CrustIs4TimesAsMuch() {
        SaltRow x = withCrustOf(60, 9);
        x.pass(1, 0, 0, 34);
        due("15 mix: 60 of 60 go back", () -> pond(x, 5), "[9, 16, 360, 8, 72, 15, 0, 16, 1, 5, 0]");
    }

    private static void mix5AllOfTheCrustGoesBack() {
        SaltRow x = withCrustOf(30, 9);
        x.pass(1, 0, 0, 34);
        due("15 mix: 30 of 30 go back", () -> pond(x, 5), "[9, 16, 330, 8, 66, 15, 0, 14, 1, 4, 0]");
    }

    private static void mix6CrustWithoutSalt() {
        SaltRow x = withCrustOf(0, 9);
        x.pass(1, 0, 0, 34);
        due("nothing goes back, DIRT stays", () -> pond(x, 5), "[9, 16, 300, 8, 60, 15, 0, 12, 1, 4, 0]");
    }

    private static void mix7CrustOfAnyPond() {
        SaltRow x = withSea();
        x.pump(0, 1, 11);
        x.pass(30, 9, 9, 0);
        due("a CRUST of 30", () -> pond(x, 1), "[3, 1, 300, 8, 66, 0, 30, 14, 0, 73, 0]");
        x.pass(1, 0, 0, 40);
        due("24 go back", () -> pond(x, 1), "[3, 7, 324, 8, 66, 6, 6, 14, 2, 11, 0]");
    }

    private static void mix8WithoutBrine() {
        SaltRow x = withCrust(3);
        x.drain(5);
        x.pass(1, 0, 0, 40);
        due("6 of rain with 24 of the CRUST", () -> pond(x, 5), "[3, 6, 24, 0, 0, 6, 1476, 272, 2, 0, 0]");
    }

    // ---- 2. a day: (6) minerals fall

    private static void fall1Gypsum8IsHeld() {
        SaltRow x = dried(1, 4, 0, 0, 0);
        due("BRINE 1 with 8", () -> pond(x, 5), "[1, 1, 120, 8, 24, 0, 0, 0, 1, 28, 0]");
    }

    private static void fall2GypsumAbove8() {
        SaltRow x = dried(1, 4, 1, 0, 0);
        due("of 9 falls one, as DIRT", () -> pond(x, 5), "[1, 1, 135, 8, 27, 0, 0, 1, 1, 32, 0]");
    }

    private static void fall3Salt300IsHeld() {
        SaltRow x = dried(1, 10, 0, 0, 0);
        due("BRINE 1 with 300", () -> pond(x, 5), "[1, 1, 300, 8, 60, 0, 0, 12, 1, 72, 0]");
    }

    private static void fall4SaltAbove300() {
        SaltRow x = dried(1, 10, 0, 0, 1);
        due("of 301 falls one", () -> pond(x, 5), "[1, 1, 300, 8, 60, 0, 1, 12, 1, 72, 0]");
    }

    private static void fall5Bitter200IsHeld() {
        SaltRow x = dried(1, 33, 0, 1, 0);
        due("BRINE 1 with 200", () -> pond(x, 5), "[1, 1, 300, 8, 200, 0, 700, 58, 1, 90, 0]");
    }

    private static void fall6BitterAbove200() {
        SaltRow x = dried(1, 33, 1, 0, 0);
        due("of 201 falls one, as DIRT", () -> pond(x, 5), "[1, 1, 300, 8, 200, 0, 705, 60, 1, 90, 0]");
    }

    private static void fall7NothingWithoutBrine() {
        SaltRow x = withCrust(1);
        x.drain(5);
        due("nothing falls", () -> x.pass(30, 9, 9, 0), 0);
        due("the CRUST stays", () -> pond(x, 5), "[1, 0, 0, 0, 0, 0, 1500, 272, 0, 0, 0]");
    }

    private static void fall8TwiceAsMuchIsHeldByTwo() {
        SaltRow x = withSea();
        x.pump(0, 5, 20);
        x.pass(5, 9, 5, 0);
        due("BRINE 2 holds 16 and 600", () -> pond(x, 5), "[3, 2, 600, 16, 120, 0, 0, 24, 0, 72, 0]");
    }

    private static void fall9AfterItMixes() {
        SaltRow x = withCrustOf(30, 9);
        due("what goes back does not fall again", () -> x.pass(1, 0, 0, 34), 0);
    }

    // ---- 3. by hand

    private static void hand1SkimWithoutFresh() {
        SaltRow x = withSea();
        due("none is gone", () -> x.skim(0), 0);
        due("BRINE stays", () -> x.ofPond(0, 1), 60);
        due("ever", () -> x.many(16), 0);
    }

    private static void hand2SkimAllFresh() {
        SaltRow x = new SaltRow();
        x.area(7, 9);
        x.pass(1, 0, 0, 40);
        due("18 are gone", () -> x.skim(7), 18);
        due("BRINE stays", () -> pond(x, 7), "[9, 18, 0, 0, 0, 0, 0, 0, 2, 0, 0]");
    }

    private static void hand3DrainAtTide4() {
        for (int day : new int[] {5, 9, 19, 23}) {
            SaltRow x = withSea();
            x.pass(day - 1, 0, 0, 0);
            due("TIDE of DAY " + day, () -> x.tide(x.many(0)), 4);
            due("DAY " + day, () -> x.drain(0), 60);
        }
    }

    private static void hand4DrainAtTide5() {
        for (int day : new int[] {4, 10, 18, 24}) {
            SaltRow x = withSea();
            x.pass(day - 1, 0, 0, 0);
            due("TIDE of DAY " + day, () -> x.tide(x.many(0)), 5);
            refused("DAY " + day, x, () -> x.drain(0), STATE);
        }
    }

    private static void hand5DrainAtLowestTide() {
        SaltRow x = withSea();
        x.pass(6, 0, 0, 0);
        due("TIDE 2", () -> x.drain(0), 60);
        due("its SALT is LOST", () -> x.many(9), 1800);
        due("nothing is left", () -> pond(x, 0), "[3, 0, 0, 0, 0, 0, 0, 0, 0, 0, 0]");
    }

    private static void hand6DrainKeepsFreshAndCrust() {
        SaltRow x = withCrustOf(90, 9);
        x.pass(13, 0, 0, 0);
        x.pass(1, 0, 0, 34);
        due("DAY 76, TIDE 3", () -> x.tide(x.many(0)), 3);
        due("16 are gone", () -> x.drain(5), 16);
        due("FRESH of 15, CRUST of 30 and 18 stay", () -> pond(x, 5), "[9, 0, 0, 0, 0, 15, 30, 18, 0, 0, 0]");
        due("SALT of 360 is LOST", () -> x.many(9), 360);
    }

    private static void hand7PumpCostsATenthRoundedUp() {
        int[] much = {1, 9, 10, 11, 19, 20, 21, 60};
        int[] coins = {-1, -1, -1, -2, -2, -2, -3, -6};
        for (int k = 0; k < much.length; k++) {
            SaltRow x = withSea();
            int it = much[k];
            x.pump(0, 1, it);
            due("much " + it, () -> x.many(17), coins[k]);
        }
    }

    private static void hand8PumpAllAndOneMore() {
        SaltRow x = withSea();
        refused("61 of 60", x, () -> x.pump(0, 1, 61), STATE);
        due("60 of 60", () -> x.pump(0, 1, 60), 7);
        refused("1 of none", x, () -> x.pump(0, 1, 1), STATE);
    }

    private static void hand9PumpFreshStays() {
        SaltRow x = new SaltRow();
        x.pass(1, 0, 0, 40);
        due("BRINE of 6 alone goes", () -> x.pump(0, 1, 6), 0);
        due("FRESH stays", () -> pond(x, 0), "[3, 0, 0, 0, 0, 6, 0, 0, 0, 0, 0]");
        refused("7 of none", x, () -> x.pump(0, 1, 1), STATE);
    }

    // ---- 4. rights and heaps

    private static void right1TwelveTogether() {
        SaltRow x = new SaltRow();
        for (int k = 0; k < 6; k++) {
            x.family();
            x.right(k, 6, 2);
        }
        for (int k = 0; k < 6; k++) {
            int it = k;
            refused("13 with the FAMILY " + k, x, () -> x.right(it, 6, 3), STATE);
        }
        due("12 again", () -> x.right(5, 6, 2), 2);
        due("11", () -> x.right(5, 6, 1), 2);
        due("12", () -> x.right(0, 6, 3), 2);
        due("other PANS have room for 12", () -> x.right(3, 5, 12) + x.right(4, 7, 12), 0);
    }

    private static void right2TwelveForOne() {
        SaltRow x = new SaltRow();
        x.family();
        x.family();
        due("12", () -> x.right(0, 5, 12), 0);
        due("12 and 0", () -> x.right(1, 5, 0), 0);
        refused("12 and 1", x, () -> x.right(1, 5, 1), STATE);
        due("0 and 0", () -> x.right(0, 5, 0), 12);
        due("0 and 12", () -> x.right(1, 5, 12), 0);
    }

    private static void harvest1RakesOf200TimesArea() {
        int[][] of = {{16, 1, 0, 4, 199, 199, 0}, {16, 0, 2, 0, 200, 200, 0}, {16, 0, 2, 1, 201, 200, 1}};
        for (int[] a : of) {
            SaltRow x = dried(1, a[0], a[1], a[2], a[3]);
            due("a CRUST of", () -> x.ofPond(5, 6), a[4]);
            due("by RAKES of " + a[4], () -> x.harvest(5, false), a[5]);
            due("left", () -> x.ofPond(5, 6), a[6]);
        }
    }

    private static void harvest2RakesOfAllWithALargeArea() {
        SaltRow x = withCrust(7);
        due("1400 of 1500", () -> x.harvest(5, false), 1400);
        SaltRow y = withCrust(8);
        due("all 1500", () -> y.harvest(5, false), 1500);
    }

    private static void harvest3MachineTakesAll() {
        SaltRow x = withCrust(1);
        due("1500", () -> x.harvest(5, true), 1500);
        due("none left", () -> pond(x, 5), "[1, 1, 300, 8, 200, 0, 0, 0, 1, 90, 1]");
        due("DIRT of 272 and 10 times AREA", () -> x.many(13), 282);
        SaltRow y = withCrust(9);
        y.harvest(5, true);
        due("DIRT of 272 and 10 times 9", () -> y.many(13), 362);
    }

    private static void harvest4ShareOfDirt() {
        SaltRow x = dried(1, 16, 0, 2, 1);
        // 24 of GYPSUM in 200 of 201
        due("DIRT", () -> x.ofPond(5, 7), 24);
        x.harvest(5, false);
        due("24 times 200, by 201", () -> x.many(13), 23);
        due("left", () -> x.ofPond(5, 7), 1);
        x.pass(1, 0, 0, 0);
        due("the last", () -> x.harvest(5, false), 1);
        due("with the last of DIRT", () -> x.many(13), 24);
        due("none left", () -> x.ofPond(5, 7), 0);
    }

    private static void harvest5TenthForTheCrown() {
        SaltRow x = dried(1, 10, 0, 0, 1);
        x.harvest(5, false);
        due("none of 1", () -> x.many(10) * 100 + x.many(11), 1);
        SaltRow y = dried(1, 10, 0, 0, 7);
        y.harvest(5, false);
        due("none of 7", () -> y.many(10) * 100 + y.many(11), 7);
        SaltRow z = dried(1, 10, 0, 1, 0);
        z.harvest(5, false);
        due("1 of 10", () -> z.many(10) * 100 + z.many(11), 109);
        SaltRow w = dried(1, 10, 0, 1, 1);
        w.harvest(5, false);
        due("1 of 11", () -> w.many(10) * 100 + w.many(11), 110);
    }

    private static void harvest6TwelfthsAreRoundedDown() {
        SaltRow x = dried(1, 10, 0, 1, 1);
        for (int k = 0; k < 6; k++) {
            x.family();
            x.right(k, 5, k < 2 ? 1 : 2);
        }
        due("11", () -> x.harvest(5, false), 11);
        // of 10: 1 / 12 is 0, 2 / 12 is 1; of 12 of DIRT 1 and 2
        for (int k = 0; k < 6; k++) {
            int it = k;
            due("FAMILY " + k, () -> x.ofFamily(it, 0) * 10 + x.ofFamily(it, 1), k < 2 ? 1 : 12);
        }
        due("the CLOISTER has the rest", () -> x.many(11) * 10 + x.many(13), 62);
    }

    private static void harvest7AllTwelfthsLeaveNothing() {
        SaltRow x = withFamily(1, 12);
        x.harvest(5, true);
        due("1350 and 282", () -> x.ofFamily(0, 0) * 1000 + x.ofFamily(0, 1), 1350282);
        due("the CLOISTER", () -> x.many(11) + x.many(13), 0);
    }

    private static void harvest8NoTwelfthsLeaveAll() {
        SaltRow x = withFamily(1, 0);
        x.right(0, 6, 12);
        x.right(0, 7, 12);
        x.harvest(5, true);
        due("no SALT", () -> family(x, 0), "[0, 0, 0, 0, 0, 0]");
        due("the CLOISTER", () -> x.many(11) * 1000 + x.many(13), 1350282);
    }

    private static void harvest9OnceADay() {
        SaltRow x = withCrust(1);
        x.harvest(5, false);
        refused("again by RAKES", x, () -> x.harvest(5, false), STATE);
        refused("again by a MACHINE", x, () -> x.harvest(5, true), STATE);
        x.pass(1, 0, 0, 0);
        due("the next DAY", () -> x.harvest(5, false), 200);
    }

    private static void harvestAgainAddsToTheHeap() {
        SaltRow x = withFamily(1, 12);
        x.harvest(5, false);
        due("180 and 36", () -> family(x, 0), "[180, 36, 83, 0, 180, 0]");
        x.pass(1, 0, 0, 0);
        x.harvest(5, false);
        due("180 and 36 more", () -> family(x, 0), "[360, 72, 83, 0, 360, 0]");
    }

    private static void flower1SunOf5AndOf6() {
        SaltRow x = withCrust(1);
        x.pass(1, 5, 2, 0);
        refused("SUN 5", x, () -> x.flower(5), STATE);
        x.pass(1, 6, 2, 0);
        due("SUN 6", () -> x.flower(5), 3);
        x.pass(1, 9, 2, 0);
        due("SUN 9", () -> x.flower(5), 3);
        x.pass(1, 0, 2, 0);
        refused("SUN 0", x, () -> x.flower(5), STATE);
    }

    private static void flower2WindOf2AndOf3() {
        SaltRow x = withCrust(1);
        x.pass(1, 9, 3, 0);
        refused("WIND 3", x, () -> x.flower(5), STATE);
        x.pass(1, 9, 2, 0);
        due("WIND 2", () -> x.flower(5), 3);
        x.pass(1, 9, 0, 0);
        due("WIND 0", () -> x.flower(5), 3);
        x.pass(1, 9, 9, 0);
        refused("WIND 9", x, () -> x.flower(5), STATE);
    }

    private static void flower3StrengthOf54AndOf55() {
        SaltRow x = dried(1, 7, 1, 0, 4);
        x.pass(1, 9, 0, 0);
        due("230 - 1 and 45 in 1", () -> pond(x, 5), "[1, 1, 229, 8, 45, 0, 0, 7, 1, 54, 0]");
        refused("STRENGTH 54", x, () -> x.flower(5), STATE);
        SaltRow y = dried(1, 7, 1, 0, 5);
        y.pass(1, 9, 0, 0);
        due("230 and 45 in 1", () -> pond(y, 5), "[1, 1, 230, 8, 45, 0, 0, 7, 1, 55, 0]");
        due("STRENGTH 55", () -> y.flower(5), 3);
        due("it is less then", () -> pond(y, 5), "[1, 1, 227, 8, 45, 0, 0, 7, 1, 54, 1]");
    }

    private static void flower4SunAndWindAre0AtFirst() {
        SaltRow x = new SaltRow();
        refused("on DAY 0", x, () -> x.flower(5), STATE);
    }

    private static void flower5LatestDayCounts() {
        SaltRow x = withCrust(1);
        x.pass(29, 9, 0, 0);
        x.pass(1, 5, 0, 0);
        refused("the latest was bad", x, () -> x.flower(5), STATE);
        x.pass(29, 5, 9, 0);
        x.pass(1, 6, 2, 0);
        due("the latest was good", () -> x.flower(5), 3);
    }

    private static void flower6ThreeTimesArea() {
        for (int area = 1; area <= 9; area++) {
            SaltRow x = withCrust(area);
            x.pass(1, 9, 0, 0);
            int it = area;
            due("AREA " + area, () -> x.flower(5), 3 * it);
            due("of the BRINE", () -> x.ofPond(5, 2), 300 - 3 * it);
            due("not of the CRUST", () -> x.ofPond(5, 6) * 1000 + x.ofPond(5, 7), 1500272);
        }
    }

    private static void flower7TwelfthsAreRoundedDown() {
        SaltRow x = withFamily(1, 3);
        x.family();
        x.right(1, 5, 4);
        x.family();
        x.right(2, 5, 5);
        x.pass(1, 9, 0, 0);
        due("3", () -> x.flower(5), 3);
        due("3 / 12 of 3", () -> family(x, 0), "[0, 0, 0, 0, 0, 0]");
        due("4 / 12 of 3", () -> family(x, 1), "[1, 0, 100, 0, 1, 0]");
        due("5 / 12 of 3", () -> family(x, 2), "[1, 0, 100, 0, 1, 0]");
        due("the CLOISTER has the rest, the CROWN none", () -> x.many(11) * 100 + x.many(10), 100);
    }

    private static void flower8OnceADayWithTheHarvest() {
        SaltRow x = withCrust(1);
        x.pass(1, 9, 0, 0);
        x.flower(5);
        refused("again", x, () -> x.flower(5), STATE);
        refused("a HARVEST", x, () -> x.harvest(5, true), STATE);
        x.pass(1, 9, 0, 0);
        x.harvest(5, false);
        refused("behind a HARVEST", x, () -> x.flower(5), STATE);
        x.pass(1, 9, 0, 0);
        due("the next DAY", () -> x.flower(5), 3);
    }

    private static void flower9NeedsNoCrust() {
        SaltRow x = dried(1, 10, 0, 0, 0);
        x.pass(1, 9, 0, 0);
        due("no SALT in the CRUST", () -> x.ofPond(5, 6), 0);
        due("FLOWERS", () -> x.flower(5), 3);
    }

    /** A HEAP with all RIGHTS: HARVESTED by RAKES, then WASHED so often. */
    private static SaltRow washed(SaltRow x, int times) {
        x.family();
        x.right(0, 5, 12);
        x.harvest(5, false);
        for (int k = 0; k < times; k++) {
            x.wash(0);
        }
        return x;
    }

    private static void wash1TwentiethRoundedUp() {
        SaltRow x = washed(dried(1, 10, 0, 0, 1), 0);
        due("SALT of 1, DIRT of 12", () -> family(x, 0), "[1, 12, 7, 0, 1, 0]");
        due("all SALT is LOST", () -> x.wash(0), 0);
        due("half of DIRT is left", () -> family(x, 0), "[0, 6, 0, 0, 1, 0]");
        due("LOST", () -> x.many(9), 1);
        // 22 less the CROWN's 2 are 20, 23 less 2 are 21
        SaltRow y = washed(dried(1, 10, 0, 2, 2), 0);
        due("SALT of 20", () -> y.ofFamily(0, 0), 20);
        y.wash(0);
        due("1 of 20 is LOST", () -> y.ofFamily(0, 0) * 100 + y.many(9), 1901);
        SaltRow z = washed(dried(1, 10, 0, 2, 3), 0);
        due("SALT of 21", () -> z.ofFamily(0, 0), 21);
        z.wash(0);
        due("2 of 21 are LOST", () -> z.ofFamily(0, 0) * 100 + z.many(9), 1902);
    }

    private static void wash2HalfOfDirtRoundedUp() {
        SaltRow x = washed(withCrust(9), 0);
        int[] dirt = {272, 136, 68, 34, 17, 8, 4, 2, 1, 0, 0};
        for (int k = 0; k < dirt.length; k++) {
            due("DIRT, WASHED " + k + " times", () -> x.ofFamily(0, 1), dirt[k]);
            x.wash(0);
        }
    }

    private static void wash3NoSalt() {
        SaltRow x = washed(dried(1, 10, 0, 0, 1), 1);
        due("DIRT alone", () -> family(x, 0), "[0, 6, 0, 0, 1, 0]");
        refused("with DIRT", x, () -> x.wash(0), STATE);
        x.family();
        refused("without both", x, () -> x.wash(1), STATE);
    }

    private static void purity1WithoutBoth() {
        SaltRow x = new SaltRow();
        x.family();
        due("0", () -> x.ofFamily(0, 2), 0);
    }

    private static void purity2DirtAlone() {
        SaltRow x = washed(dried(1, 10, 0, 0, 1), 1);
        due("0", () -> x.ofFamily(0, 2), 0);
    }

    private static void purity3SaltAlone() {
        SaltRow x = withFamily(1, 12);
        x.pass(1, 9, 0, 0);
        x.flower(5);
        due("100", () -> x.ofFamily(0, 2), 100);
    }

    private static void purity4IsRoundedDown() {
        SaltRow x = washed(withCrust(9), 8);
        due("100 times 893, by 894", () -> family(x, 0), "[893, 1, 99, 0, 1350, 0]");
    }

    private static void sell1PurityOf89() {
        // SALT of 540, 30 and 8 less 300, less the CROWN's 27; DIRT of 36 less 8
        SaltRow x = washed(dried(9, 18, 0, 3, 8), 0);
        due("100 times 251, by 279", () -> family(x, 0), "[251, 28, 89, 0, 251, 0]");
        unchanged("nobody takes it", x, () -> x.sell(0, 10, 99), -2);
        due("nothing is done", () -> family(x, 0), "[251, 28, 89, 0, 251, 0]");
    }

    private static void sell2PurityOf90() {
        // SALT of 540 and 40 less 300, less the CROWN's 28; DIRT of 36 less 8
        SaltRow x = washed(dried(9, 18, 0, 4, 0), 0);
        due("100 times 252, by 280", () -> family(x, 0), "[252, 28, 90, 0, 252, 0]");
        due("half of 99", () -> x.sell(0, 10, 99), 49);
        due("28 times 10, by 252, of DIRT", () -> family(x, 0), "[242, 27, 89, 49, 252, 10]");
        unchanged("89 then", x, () -> x.sell(0, 10, 99), -2);
    }

    private static void sell3PurityOf96() {
        // SALT of 420, 45, 30 and 3 less 300, less the CROWN's 19, WASHED of 9 and 9; DIRT of 23, 11, 5
        SaltRow x = washed(dried(9, 14, 3, 3, 3), 2);
        due("100 times 161, by 166", () -> family(x, 0), "[161, 5, 96, 0, 179, 0]");
        due("half of 99", () -> x.sell(0, 10, 99), 49);
        due("5 times 10, by 161, of DIRT", () -> family(x, 0), "[151, 5, 96, 49, 179, 10]");
    }

    private static void sell4PurityOf97() {
        // SALT of 660 less 300, less the CROWN's 36, WASHED of 17 and 16; DIRT of 36, 18, 9
        SaltRow x = washed(dried(9, 22, 0, 0, 0), 2);
        due("100 times 291, by 300", () -> family(x, 0), "[291, 9, 97, 0, 324, 0]");
        due("all of 99", () -> x.sell(0, 10, 99), 99);
        due("9 times 10, by 291, of DIRT", () -> family(x, 0), "[281, 9, 96, 99, 324, 10]");
        due("96 then", () -> x.sell(0, 10, 99), 49);
    }

    private static void sell5CoinsAreRoundedDown() {
        SaltRow x = withFamily(9, 12);
        x.pass(1, 9, 0, 0);
        x.flower(5);
        due("9 times 1, by 10", () -> x.sell(0, 9, 1), 0);
        due("10 times 1, by 10", () -> x.sell(0, 10, 1), 1);
        due("1 times 99, by 10", () -> x.sell(0, 1, 99), 9);
        due("of 27 SALT", () -> family(x, 0), "[7, 0, 100, 10, 27, 20]");
    }

    private static void sell6HalfIsRoundedDown() {
        SaltRow x = washed(withCrust(9), 2);
        due("a PURITY of 94", () -> family(x, 0), "[1217, 68, 94, 0, 1350, 0]");
        due("half of 0", () -> x.sell(0, 1, 9), 0);
        due("half of 1", () -> x.sell(0, 1, 10), 0);
        due("half of 1", () -> x.sell(0, 1, 19), 0);
        due("half of 2", () -> x.sell(0, 1, 20), 1);
        due("half of 3", () -> x.sell(0, 1, 39), 1);
    }

    private static void sell7AllSaltTakesAllDirt() {
        SaltRow x = washed(withCrust(9), 2);
        due("1217 times 10, by 10, half", () -> x.sell(0, 1217, 10), 608);
        due("nothing is left", () -> family(x, 0), "[0, 0, 0, 608, 1350, 1217]");
    }

    private static void sell8ShareOfDirtLessThanOne() {
        SaltRow x = washed(withCrust(9), 2);
        x.sell(0, 17, 10);
        due("68 times 17, by 1217", () -> x.ofFamily(0, 1), 68);
        x.sell(0, 18, 10);
        due("68 times 18, by 1200", () -> x.ofFamily(0, 1), 67);
    }

    // ---- what is divided, and what wraps around

    /** Much of the SEA's BRINE, as it is, in the POND 3. */
    private static SaltRow withMuchBrine() {
        SaltRow x = new SaltRow();
        x.area(0, 9);
        x.gate(0, true);
        for (int k = 0; k < 100; k++) {
            x.pass(5, 0, 0, 0);
            x.pump(0, 3, x.ofPond(0, 1));
        }
        return x;
    }

    private static void product1OfAShare() {
        SaltRow x = withMuchBrine();
        int brine = x.ofPond(3, 1);
        due("all SALT of the SEA", () -> x.ofPond(3, 2), 30 * brine);
        due("SALT times BRINE does not fit an int", () -> 30L * brine * brine > 10L * MOST, true);
        x.pump(3, 4, brine - 1);
        due("what goes", () -> pond(x, 4), "[3, " + (brine - 1) + ", " + 30 * (brine - 1) + ", " + 2 * (brine - 1) + ", "
                + 6 * (brine - 1) + ", 0, 0, 0, " + (brine - 1) / 3 + ", 7, 0]");
        due("what stays", () -> pond(x, 3), "[3, 1, 30, 2, 6, 0, 0, 0, 0, 7, 0]");
    }

    private static void product2OfASharedFlow() {
        SaltRow x = withMuchBrine();
        int brine = x.ofPond(3, 1);
        x.gate(4, true);
        x.pass(1, 0, 0, 0);
        int flows = brine / 3 * 3 / 2;
        due("half of the LEVEL times AREA", () -> x.ofPond(4, 1), flows);
        due("its SALT", () -> x.ofPond(4, 2), 30 * flows);
        due("its BITTER", () -> x.ofPond(4, 4), 6 * flows);
    }

    /** All AREAS of 9, all GATES open, on DAY 4990: large CRUSTS. */
    private static SaltRow withMuchCrust() {
        SaltRow x = new SaltRow();
        for (int pond = 0; pond < 8; pond++) {
            x.area(pond, 9);
            x.gate(pond, true);
        }
        for (int k = 0; k < 166; k++) {
            x.pass(30, 9, 9, 0);
        }
        x.pass(10, 9, 0, 0);
        return x;
    }

    private static void product3OfDirtAndSalt() {
        SaltRow x = withMuchCrust();
        long salt = x.ofPond(5, 6);
        long dirt = x.ofPond(5, 7);
        due("DIRT times SALT does not fit an int", () -> dirt * salt > 10L * MOST, true);
        due("DIRT times 1800 does not, of the PAN 7", () -> x.ofPond(7, 7) * 1800L > MOST, true);
        x.family();
        x.right(0, 5, 12);
        due("all SALT", () -> x.harvest(5, true), salt);
        due("all DIRT and 90", () -> x.ofFamily(0, 1), dirt + 90);
        due("SALT less a tenth", () -> x.ofFamily(0, 0), salt - salt / 10);
        due("PURITY", () -> x.ofFamily(0, 2), 100 * (salt - salt / 10) / (salt - salt / 10 + dirt + 90));
    }

    private static void product4OfDirtAndRakes() {
        SaltRow x = withMuchCrust();
        long salt = x.ofPond(7, 6);
        long dirt = x.ofPond(7, 7);
        x.harvest(7, false);
        due("DIRT times 1800, by SALT", () -> x.many(13), dirt * 1800 / salt);
        due("what stays", () -> x.ofPond(7, 7), dirt - dirt * 1800 / salt);
    }

    private static void product5OfSaltAndPrice() {
        SaltRow x = withMuchCrust();
        x.family();
        x.right(0, 5, 12);
        x.harvest(5, true);
        x.wash(0);
        x.wash(0);
        long left = x.ofFamily(0, 0);
        long dirt = x.ofFamily(0, 1);
        long half = x.ofFamily(0, 2) < 97 ? 2 : 1;
        due("SALT times 99, by 10", () -> x.sell(0, (int) left - 1, 99), (left - 1) * 99 / 10 / half);
        due("DIRT times SALT, by SALT", () -> x.ofFamily(0, 1), dirt - dirt * (left - 1) / left);
    }
}
