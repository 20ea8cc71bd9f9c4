import java.math.BigInteger;

/** A test of its own for each boundary case that the promises name: what is just allowed, and what just not. */
public final class EdgesTest extends Checks {
    public static void main(String[] args) {
        runAll(EdgesTest.class);
    }

    // ---- 1 to 4: the row

    private static void p01NewObjectHasNothing() {
        SaltRow x = new SaltRow();
        for (int what = 0; what <= 17; what++) {
            int it = what;
            due("many(" + what + ")", () -> x.many(it), 0);
        }
        due("STRENGTH", () -> x.meanStrength(), 0.0);
        due("a PAN is POND 5 to 7", () -> x.cover(5, false) || x.cover(6, false) || x.cover(7, false), false);
    }

    private static void p01ObjectsAreApart() {
        SaltRow x = new SaltRow();
        SaltRow y = withFamily(1, 12);
        y.harvest(5, false);
        due("a row made before", () -> x.digest(), new SaltRow().digest());
    }

    private static void p02AreaOfPonds() {
        SaltRow x = new SaltRow();
        refused("POND -1", x, () -> x.area(-1, 5), INDEX);
        due("POND 0", () -> x.area(0, 5), 3);
        due("POND 7", () -> x.area(7, 6), 3);
        refused("POND 8", x, () -> x.area(8, 5), INDEX);
        due("told", () -> x.ofPond(0, 0) * 10 + x.ofPond(7, 0), 56);
    }

    private static void p02AreaOf0And1() {
        SaltRow x = new SaltRow();
        refused("0", x, () -> x.area(4, 0), ARGUMENT);
        due("1", () -> x.area(4, 1), 3);
        due("told", () -> x.ofPond(4, 0), 1);
    }

    private static void p02AreaOf9And10() {
        SaltRow x = new SaltRow();
        due("9", () -> x.area(4, 9), 3);
        refused("10", x, () -> x.area(4, 10), ARGUMENT);
        due("told", () -> x.ofPond(4, 0), 9);
    }

    private static void p02AreaOnDay0And1() {
        SaltRow x = new SaltRow();
        x.gate(0, true);
        x.family();
        due("DAY 0, whatever else was told", () -> x.area(0, 4), 3);
        x.pass(1, 0, 0, 0);
        refused("DAY 1", x, () -> x.area(0, 4), STATE);
    }

    private static void p02AreaNamesExceptionsInOrder() {
        SaltRow x = emptyOn(1);
        refused("all three", x, () -> x.area(8, 10), INDEX);
        refused("the last two", x, () -> x.area(7, 10), ARGUMENT);
        refused("the last", x, () -> x.area(7, 9), STATE);
    }

    private static void p03GateOfPonds() {
        SaltRow x = new SaltRow();
        refused("POND -1", x, () -> x.gate(-1, true), INDEX);
        due("POND 0", () -> x.gate(0, true), false);
        due("POND 7", () -> x.gate(7, true), false);
        refused("POND 8", x, () -> x.gate(8, true), INDEX);
        due("the set", () -> x.many(2), 129);
    }

    private static void p03GateTwice() {
        SaltRow x = new SaltRow();
        due("shut, when it is", () -> x.gate(1, false), false);
        due("open", () -> x.gate(1, true), false);
        due("open, when it is", () -> x.gate(1, true), true);
        due("shut", () -> x.gate(1, false), true);
        due("the set", () -> x.many(2), 0);
    }

    private static void p04CoverOfPans() {
        SaltRow x = new SaltRow();
        for (int pond = -1; pond <= 4; pond++) {
            int it = pond;
            refused("POND " + pond, x, () -> x.cover(it, true), INDEX);
        }
        due("PAN 5", () -> x.cover(5, true), false);
        due("PAN 7", () -> x.cover(7, true), false);
        refused("POND 8", x, () -> x.cover(8, true), INDEX);
        due("the set", () -> x.many(3), 160);
    }

    private static void p04CoverTwice() {
        SaltRow x = new SaltRow();
        due("not, when it is not", () -> x.cover(6, false), false);
        due("COVERED", () -> x.cover(6, true), false);
        due("COVERED, when it is", () -> x.cover(6, true), true);
        due("uncovered", () -> x.cover(6, false), true);
    }

    // ---- 5: pass

    private static void p05PassOfDays() {
        SaltRow x = new SaltRow();
        refused("0", x, () -> x.pass(0, 0, 0, 0), ARGUMENT);
        due("1", () -> x.pass(1, 0, 0, 0) + x.many(0), 1);
        due("30", () -> x.pass(30, 0, 0, 0) + x.many(0), 31);
        refused("31", x, () -> x.pass(31, 0, 0, 0), ARGUMENT);
    }

    private static void p05PassOfSun() {
        SaltRow x = new SaltRow();
        refused("-1", x, () -> x.pass(1, -1, 0, 0), ARGUMENT);
        due("0", () -> x.pass(1, 0, 0, 0) + x.many(0), 1);
        due("9", () -> x.pass(1, 9, 0, 0) + x.many(0), 2);
        refused("10", x, () -> x.pass(1, 10, 0, 0), ARGUMENT);
    }

    private static void p05PassOfWind() {
        SaltRow x = new SaltRow();
        refused("-1", x, () -> x.pass(1, 0, -1, 0), ARGUMENT);
        due("0", () -> x.pass(1, 0, 0, 0) + x.many(0), 1);
        due("9", () -> x.pass(1, 0, 9, 0) + x.many(0), 2);
        refused("10", x, () -> x.pass(1, 0, 10, 0), ARGUMENT);
    }

    private static void p05PassOfRain() {
        SaltRow x = new SaltRow();
        refused("-1", x, () -> x.pass(1, 0, 0, -1), ARGUMENT);
        due("0", () -> x.pass(1, 0, 0, 0) + x.many(15), 0);
        due("40", () -> x.pass(1, 0, 0, 40) + x.many(15), 48);
        refused("41", x, () -> x.pass(1, 0, 0, 41), ARGUMENT);
    }

    private static void p05PassToDay5000() {
        SaltRow x = emptyOn(4970);
        due("30 from 4970", () -> x.pass(30, 0, 0, 0) + x.many(0), 5000);
        SaltRow y = emptyOn(4971);
        refused("30 from 4971", y, () -> y.pass(30, 0, 0, 0), STATE);
        due("29 from 4971", () -> y.pass(29, 0, 0, 0) + y.many(0), 5000);
        refused("1 from 5000", y, () -> y.pass(1, 0, 0, 0), STATE);
        refused("arguments are named first", y, () -> y.pass(1, 0, 0, 41), ARGUMENT);
    }

    private static void p05PassWithoutCrust() {
        SaltRow x = new SaltRow();
        due("an empty row", () -> x.pass(30, 9, 9, 0), 0);
        SaltRow y = withSea();
        y.pump(0, 4, 60);
        due("a CRUST of a POND that is no PAN", () -> y.pass(30, 9, 9, 0), 0);
        due("it is there", () -> y.ofPond(4, 6) > 0, true);
    }

    private static void p05PassTellsOfAllDaysAndPans() {
        SaltRow x = withSea();
        x.pump(0, 5, 20);
        x.pump(0, 6, 20);
        x.pump(0, 7, 20);
        due("3 times 600 less 300", () -> x.pass(30, 9, 9, 0), 900);
        due("no more", () -> x.pass(30, 9, 9, 0), 0);
    }

    private static void p05PassTellsWhatFellNotWhatIsMore() {
        SaltRow x = dried(9, 12, 0, 0, 0);
        x.cover(5, false);
        x.pass(1, 0, 0, 34);
        x.skim(5);
        due("a CRUST of 60 went back", () -> x.ofPond(5, 6), 0);
        due("and falls again", () -> x.pass(30, 9, 9, 0), 60);
    }

    private static void p05PassManyDaysAreSingleDays() {
        SaltRow x = withMixtures(2);
        SaltRow y = withMixtures(2);
        for (SaltRow it : new SaltRow[] {x, y}) {
            it.pump(7, 5, 30);
            it.gate(0, true);
            it.gate(1, true);
        }
        int once = x.pass(30, 8, 3, 1);
        int all = 0;
        for (int k = 0; k < 30; k++) {
            all += y.pass(1, 8, 3, 1);
        }
        int sum = all;
        due("the same fell", () -> once, sum);
        due("the same is there", () -> x.digest(), y.digest());
    }

    // ---- 6 to 8: by hand

    private static void p06SkimOfPonds() {
        SaltRow x = new SaltRow();
        x.pass(1, 0, 0, 40);
        refused("POND -1", x, () -> x.skim(-1), INDEX);
        due("POND 0", () -> x.skim(0), 6);
        due("POND 7", () -> x.skim(7), 6);
        refused("POND 8", x, () -> x.skim(8), INDEX);
        due("again, without FRESH", () -> x.skim(7), 0);
        due("ever", () -> x.many(16), 12);
    }

    private static void p07DrainOfPonds() {
        SaltRow x = withSea();
        x.pump(0, 7, 30);
        x.pass(6, 0, 0, 0);
        refused("POND -1", x, () -> x.drain(-1), INDEX);
        due("POND 0", () -> x.drain(0), 30);
        due("POND 7", () -> x.drain(7), 30);
        refused("POND 8", x, () -> x.drain(8), INDEX);
    }

    private static void p07DrainWithoutBrine() {
        SaltRow x = withSea();
        x.pass(6, 0, 0, 0);
        refused("a POND without", x, () -> x.drain(1), STATE);
        due("a POND with it", () -> x.drain(0), 60);
        refused("DRAINED before", x, () -> x.drain(0), STATE);
    }

    private static void p07DrainOfOne() {
        SaltRow x = withSea();
        x.pump(0, 1, 1);
        x.pass(6, 0, 0, 0);
        due("BRINE of 1", () -> x.drain(1), 1);
        due("its SALT is LOST", () -> x.many(9), 30);
    }

    private static void p07DrainWithFreshAlone() {
        SaltRow x = withSea();
        x.pass(5, 0, 0, 0);
        x.pump(0, 1, 60);
        x.pass(1, 0, 0, 40);
        x.drain(0);
        due("FRESH stays", () -> pond(x, 0), "[3, 0, 0, 0, 0, 6, 0, 0, 0, 0, 0]");
        refused("FRESH is no BRINE", x, () -> x.drain(0), STATE);
    }

    private static void p07DrainNamesExceptionsInOrder() {
        SaltRow x = withSea();
        refused("no POND, high TIDE", x, () -> x.drain(8), INDEX);
        refused("no BRINE, high TIDE", x, () -> x.drain(1), STATE);
    }

    private static void p08PumpFromAndToPonds() {
        SaltRow x = withSea();
        refused("from -1", x, () -> x.pump(-1, 0, 1), INDEX);
        refused("from 8", x, () -> x.pump(8, 0, 1), INDEX);
        refused("to -1", x, () -> x.pump(0, -1, 1), INDEX);
        refused("to 8", x, () -> x.pump(0, 8, 1), INDEX);
        due("0 to 7", () -> x.pump(0, 7, 2), 7);
        due("7 to 0", () -> x.pump(7, 0, 1), 7);
        due("what is there", () -> x.ofPond(0, 1) * 10 + x.ofPond(7, 1), 591);
    }

    private static void p08PumpOf0And1() {
        SaltRow x = withSea();
        refused("-1", x, () -> x.pump(0, 1, -1), ARGUMENT);
        refused("0", x, () -> x.pump(0, 1, 0), ARGUMENT);
        due("1", () -> x.pump(0, 1, 1), 7);
    }

    private static void p08PumpIntoTheSame() {
        SaltRow x = withSea();
        for (int pond = 0; pond < 8; pond++) {
            int it = pond;
            refused("POND " + pond, x, () -> x.pump(it, it, 1), ARGUMENT);
        }
    }

    private static void p08PumpNamesExceptionsInOrder() {
        SaltRow x = withSea();
        refused("the same, which is none, and much of 0", x, () -> x.pump(8, 8, 0), INDEX);
        refused("the same, with less", x, () -> x.pump(1, 1, 61), ARGUMENT);
        refused("much of 0 of none", x, () -> x.pump(1, 0, 0), ARGUMENT);
        refused("less", x, () -> x.pump(1, 0, 1), STATE);
    }

    private static void p08PumpTellsTheStrengthThen() {
        SaltRow x = withCrust(1);
        x.pump(5, 6, 1);
        due("90 into none", () -> x.ofPond(6, 9), 90);
        SaltRow y = dried(1, 25, 0, 0, 0);
        // the POND 1 dried to 1 too, with 300 and 108
        due("300 and 150, with 300 and 108, in 2", () -> y.pump(1, 5, 1), 85);
    }

    // ---- 9 and 10: families

    private static void p09FamilySixthAndSeventh() {
        SaltRow x = new SaltRow();
        for (int k = 0; k < 6; k++) {
            int it = k;
            refused("not there yet: " + k, x, () -> x.ofFamily(it, 0), INDEX);
            due("its number", () -> x.family(), k);
            due("is there: " + k, () -> x.ofFamily(it, 0), 0);
        }
        refused("the seventh", x, () -> x.family(), STATE);
        due("FAMILIES", () -> x.many(1), 6);
        refused("6 is not there", x, () -> x.ofFamily(6, 0), INDEX);
    }

    private static void p10RightOfFamilies() {
        SaltRow x = new SaltRow();
        refused("0 of none", x, () -> x.right(0, 5, 0), INDEX);
        x.family();
        refused("-1 of one", x, () -> x.right(-1, 5, 0), INDEX);
        due("0 of one", () -> x.right(0, 5, 3), 0);
        refused("1 of one", x, () -> x.right(1, 5, 0), INDEX);
        for (int k = 1; k < 6; k++) {
            x.family();
        }
        due("5 of six", () -> x.right(5, 5, 3), 0);
        refused("6 of six", x, () -> x.right(6, 5, 0), INDEX);
    }

    private static void p10RightInPans() {
        SaltRow x = new SaltRow();
        x.family();
        refused("PAN 4", x, () -> x.right(0, 4, 1), INDEX);
        due("PAN 5", () -> x.right(0, 5, 1), 0);
        due("PAN 7", () -> x.right(0, 7, 2), 0);
        refused("PAN 8", x, () -> x.right(0, 8, 1), INDEX);
        due("told", () -> x.rightOf(0, 5) * 100 + x.rightOf(0, 6) * 10 + x.rightOf(0, 7), 102);
    }

    private static void p10RightOfTwelfths() {
        SaltRow x = new SaltRow();
        x.family();
        refused("-1", x, () -> x.right(0, 5, -1), ARGUMENT);
        due("12", () -> x.right(0, 5, 12), 0);
        refused("13", x, () -> x.right(0, 5, 13), ARGUMENT);
        due("0", () -> x.right(0, 5, 0), 12);
        due("0 again", () -> x.right(0, 5, 0), 0);
    }

    private static void p10RightOf12And13Together() {
        SaltRow x = new SaltRow();
        x.family();
        x.family();
        x.right(0, 6, 7);
        refused("7 and 6", x, () -> x.right(1, 6, 6), STATE);
        due("7 and 5", () -> x.right(1, 6, 5), 0);
        refused("8 and 5", x, () -> x.right(0, 6, 8), STATE);
        due("7 and 5, told again", () -> x.right(0, 6, 7), 7);
        due("6 and 5", () -> x.right(0, 6, 6), 7);
        due("6 and 6", () -> x.right(1, 6, 6), 5);
    }

    private static void p10RightNamesExceptionsInOrder() {
        SaltRow x = new SaltRow();
        x.family();
        x.family();
        x.right(0, 5, 12);
        refused("13, and no such FAMILY", x, () -> x.right(2, 5, 13), INDEX);
        refused("13, and no PAN", x, () -> x.right(0, 8, 13), INDEX);
        refused("13, and 25 together", x, () -> x.right(1, 5, 13), ARGUMENT);
        refused("24 together", x, () -> x.right(1, 5, 12), STATE);
    }

    // ---- 11 and 12: harvest and flower

    private static void p11HarvestOfPans() {
        SaltRow x = withSea();
        x.pump(0, 5, 20);
        x.pump(0, 6, 20);
        x.pump(0, 7, 20);
        x.pass(30, 9, 9, 0);
        refused("PAN 4", x, () -> x.harvest(4, true), INDEX);
        due("PAN 5", () -> x.harvest(5, true), 300);
        due("PAN 6", () -> x.harvest(6, false), 300);
        due("PAN 7", () -> x.harvest(7, true), 300);
        refused("PAN 8", x, () -> x.harvest(8, true), INDEX);
    }

    private static void p11HarvestOfAPondThatIsNoPan() {
        SaltRow x = withSea();
        x.pump(0, 4, 60);
        x.pass(30, 9, 9, 0);
        due("a CRUST", () -> x.ofPond(4, 6) > 0, true);
        refused("POND 4", x, () -> x.harvest(4, false), INDEX);
    }

    private static void p11HarvestOfACrustWithoutSalt() {
        SaltRow x = dried(1, 10, 0, 0, 0);
        due("DIRT alone", () -> x.ofPond(5, 6) * 100 + x.ofPond(5, 7), 12);
        refused("by RAKES", x, () -> x.harvest(5, false), STATE);
        refused("by a MACHINE", x, () -> x.harvest(5, true), STATE);
        refused("no CRUST", x, () -> x.harvest(6, true), STATE);
    }

    private static void p11HarvestOfOne() {
        SaltRow x = dried(1, 10, 0, 0, 1);
        due("SALT of 1", () -> x.harvest(5, false), 1);
        due("all DIRT with it", () -> x.ofPond(5, 7), 0);
        due("the CLOISTER has both", () -> x.many(11) * 100 + x.many(13), 112);
    }

    private static void p11HarvestDoesNotCloseOtherPans() {
        SaltRow x = withSea();
        x.pump(0, 5, 30);
        x.pump(0, 6, 30);
        x.pass(30, 9, 9, 0);
        x.harvest(5, false);
        due("PAN 5", () -> x.ofPond(5, 10), 1);
        due("PAN 6", () -> x.ofPond(6, 10), 0);
        due("PAN 6 can be", () -> x.harvest(6, false), 600);
        refused("PAN 5 can't", x, () -> x.harvest(5, false), STATE);
    }

    private static void p11HarvestedAllThisDay() {
        SaltRow x = withCrust(1);
        x.harvest(5, true);
        refused("no SALT, and harvested", x, () -> x.harvest(5, true), STATE);
        x.pass(1, 0, 0, 0);
        due("a new DAY", () -> x.ofPond(5, 10), 0);
        refused("no SALT", x, () -> x.harvest(5, true), STATE);
    }

    private static void p12FlowerOfPans() {
        SaltRow x = withSea();
        x.pump(0, 5, 20);
        x.pump(0, 6, 20);
        x.pump(0, 7, 20);
        x.pass(30, 9, 9, 0);
        x.pass(1, 9, 0, 0);
        refused("PAN 4", x, () -> x.flower(4), INDEX);
        due("PAN 5", () -> x.flower(5), 9);
        due("PAN 6", () -> x.flower(6), 9);
        due("PAN 7", () -> x.flower(7), 9);
        refused("PAN 8", x, () -> x.flower(8), INDEX);
    }

    private static void p12FlowerWithoutBrine() {
        SaltRow x = withCrust(1);
        x.pump(5, 6, 1);
        x.pass(1, 9, 0, 0);
        refused("a CRUST alone", x, () -> x.flower(5), STATE);
        due("where it is", () -> x.flower(6), 9);
    }

    private static void p12FlowerAtItsStrengthNow() {
        SaltRow x = withCrust(1);
        x.pass(1, 9, 0, 0);
        due("STRENGTH 90", () -> x.ofPond(5, 9), 90);
        x.pump(5, 0, 1);
        refused("PUMPED out", x, () -> x.flower(5), STATE);
        x.pump(0, 7, 1);
        due("PUMPED into another", () -> x.flower(7), 9);
    }

    private static void p12FlowerTakesNoMoreThanLetsThemStay() {
        SaltRow x = dried(9, 7, 1, 0, 5);
        x.pass(1, 6, 2, 0);
        due("STRENGTH 55", () -> x.ofPond(5, 9), 55);
        due("27 of 230", () -> x.flower(5), 27);
        due("left", () -> x.ofPond(5, 2), 203);
    }

    // ---- 13 and 14: wash and sell

    private static void p13WashOfFamilies() {
        SaltRow x = withFamily(1, 11);
        x.harvest(5, false);
        refused("-1", x, () -> x.wash(-1), INDEX);
        due("0", () -> x.wash(0), 90);
        refused("1 of one", x, () -> x.wash(1), INDEX);
        x.family();
        refused("1 of two, without SALT", x, () -> x.wash(1), STATE);
    }

    private static void p13WashUntilNothingIsLeft() {
        SaltRow x = withFamily(1, 12);
        x.pass(1, 9, 0, 0);
        x.flower(5);
        for (int left = 2; left >= 0; left--) {
            due("PURITY with " + left + " left", () -> x.wash(0), left == 0 ? 0 : 100);
            due("left", () -> x.ofFamily(0, 0), left);
        }
        refused("none is left", x, () -> x.wash(0), STATE);
        due("LOST", () -> x.many(9), 3);
        due("got ever", () -> x.ofFamily(0, 4), 3);
    }

    private static void p14SellOfFamilies() {
        SaltRow x = withFamily(9, 12);
        x.pass(1, 9, 0, 0);
        x.flower(5);
        refused("-1", x, () -> x.sell(-1, 1, 10), INDEX);
        due("0", () -> x.sell(0, 1, 10), 1);
        refused("1 of one", x, () -> x.sell(1, 1, 10), INDEX);
    }

    private static void p14SellOfSalt() {
        SaltRow x = withFamily(9, 12);
        x.pass(1, 9, 0, 0);
        x.flower(5);
        refused("-1", x, () -> x.sell(0, -1, 10), ARGUMENT);
        refused("0", x, () -> x.sell(0, 0, 10), ARGUMENT);
        due("1 of 27", () -> x.sell(0, 1, 10), 1);
        refused("27 of 26", x, () -> x.sell(0, 27, 10), STATE);
        due("26 of 26", () -> x.sell(0, 26, 10), 26);
        refused("1 of none", x, () -> x.sell(0, 1, 10), STATE);
    }

    private static void p14SellAtAPrice() {
        SaltRow x = withFamily(9, 12);
        x.pass(1, 9, 0, 0);
        x.flower(5);
        refused("0", x, () -> x.sell(0, 10, 0), ARGUMENT);
        due("1", () -> x.sell(0, 10, 1), 1);
        due("99", () -> x.sell(0, 10, 99), 99);
        refused("100", x, () -> x.sell(0, 7, 100), ARGUMENT);
    }

    private static void p14SellNamesExceptionsInOrder() {
        SaltRow x = withFamily(1, 11);
        x.harvest(5, false);
        refused("all", x, () -> x.sell(1, 0, 0), INDEX);
        refused("SALT of 0, which is less than there is", x, () -> x.sell(0, 0, 50), ARGUMENT);
        refused("more than there is, at a PRICE of 100", x, () -> x.sell(0, 166, 100), ARGUMENT);
        refused("more than there is, with a PURITY of 83", x, () -> x.sell(0, 166, 50), STATE);
        unchanged("all of it, with a PURITY of 83", x, () -> x.sell(0, 165, 50), -2);
    }

    private static void p14SellOfDirtAlone() {
        SaltRow x = dried(1, 10, 0, 0, 1);
        x.family();
        x.right(0, 5, 12);
        x.harvest(5, false);
        x.wash(0);
        due("DIRT alone", () -> family(x, 0), "[0, 6, 0, 0, 1, 0]");
        refused("no SALT goes ahead of the PURITY", x, () -> x.sell(0, 1, 50), STATE);
    }

    // ---- 15 to 20: what is asked

    private static void p15OfPondOfPonds() {
        SaltRow x = withSea();
        x.pump(0, 7, 20);
        refused("POND -1", x, () -> x.ofPond(-1, 1), INDEX);
        due("POND 0", () -> x.ofPond(0, 1), 40);
        due("POND 7", () -> x.ofPond(7, 1), 20);
        refused("POND 8", x, () -> x.ofPond(8, 1), INDEX);
    }

    private static void p15OfPondOfWhat() {
        SaltRow x = withSea();
        refused("-1", x, () -> x.ofPond(0, -1), ARGUMENT);
        due("0", () -> x.ofPond(0, 0), 3);
        due("10", () -> x.ofPond(0, 10), 0);
        refused("11", x, () -> x.ofPond(0, 11), ARGUMENT);
        refused("the POND is named first", x, () -> x.ofPond(8, 11), INDEX);
    }

    private static void p15HarvestedThisDay() {
        SaltRow x = withCrust(1);
        due("not yet", () -> x.ofPond(5, 10), 0);
        x.harvest(5, false);
        due("by a HARVEST", () -> x.ofPond(5, 10), 1);
        x.pass(1, 9, 0, 0);
        due("the next DAY", () -> x.ofPond(5, 10), 0);
        x.flower(5);
        due("by FLOWERS", () -> x.ofPond(5, 10), 1);
        x.pass(30, 9, 0, 0);
        due("30 DAYS later", () -> x.ofPond(5, 10), 0);
    }

    private static void p16OfFamilyOfFamilies() {
        SaltRow x = new SaltRow();
        refused("0 of none", x, () -> x.ofFamily(0, 0), INDEX);
        x.family();
        refused("-1", x, () -> x.ofFamily(-1, 0), INDEX);
        due("0 of one", () -> x.ofFamily(0, 0), 0);
        refused("1 of one", x, () -> x.ofFamily(1, 0), INDEX);
    }

    private static void p16OfFamilyOfWhat() {
        SaltRow x = withFamily(9, 12);
        x.pass(1, 9, 0, 0);
        x.flower(5);
        x.sell(0, 10, 99);
        refused("-1", x, () -> x.ofFamily(0, -1), ARGUMENT);
        due("0", () -> x.ofFamily(0, 0), 17);
        due("5", () -> x.ofFamily(0, 5), 10);
        refused("6", x, () -> x.ofFamily(0, 6), ARGUMENT);
        refused("the FAMILY is named first", x, () -> x.ofFamily(1, 6), INDEX);
    }

    private static void p16WhatItGotIsNotWhatItHas() {
        SaltRow x = withFamily(9, 12);
        x.pass(1, 9, 0, 0);
        x.flower(5);
        x.wash(0);
        x.sell(0, 25, 10);
        due("27, 2 of it LOST, 25 SOLD", () -> family(x, 0), "[0, 0, 0, 25, 27, 25]");
    }

    private static void p17RightOfFamiliesAndPans() {
        SaltRow x = new SaltRow();
        refused("0 of none", x, () -> x.rightOf(0, 5), INDEX);
        x.family();
        x.right(0, 5, 12);
        x.right(0, 7, 1);
        refused("-1", x, () -> x.rightOf(-1, 5), INDEX);
        refused("1 of one", x, () -> x.rightOf(1, 5), INDEX);
        refused("PAN 4", x, () -> x.rightOf(0, 4), INDEX);
        due("PAN 5", () -> x.rightOf(0, 5), 12);
        due("PAN 6", () -> x.rightOf(0, 6), 0);
        due("PAN 7", () -> x.rightOf(0, 7), 1);
        refused("PAN 8", x, () -> x.rightOf(0, 8), INDEX);
    }

    private static void p18TideOfDays() {
        SaltRow x = new SaltRow();
        refused("-1", x, () -> x.tide(-1), ARGUMENT);
        due("0", () -> x.tide(0), 9);
        due("7", () -> x.tide(7), 2);
        due("13", () -> x.tide(13), 8);
        due("14", () -> x.tide(14), 9);
        due("5000 modulo 14 is 2", () -> x.tide(5000), 7);
        due("9999 modulo 14 is 3", () -> x.tide(9999), 6);
        refused("10000", x, () -> x.tide(10000), ARGUMENT);
    }

    private static void p19ManyOfWhat() {
        SaltRow x = withSea();
        x.pump(0, 1, 11);
        refused("-1", x, () -> x.many(-1), ARGUMENT);
        due("0", () -> x.many(0), 1);
        due("17", () -> x.many(17), -2);
        refused("18", x, () -> x.many(18), ARGUMENT);
    }

    private static void p19SetsOfNoneAndAll() {
        SaltRow x = new SaltRow();
        due("none", () -> x.many(2) + x.many(3), 0);
        for (int pond = 0; pond < 8; pond++) {
            x.gate(pond, true);
        }
        for (int pan = 5; pan < 8; pan++) {
            x.cover(pan, true);
        }
        due("all GATES", () -> x.many(2), 255);
        due("all COVERS", () -> x.many(3), 224);
    }

    private static void p19ManyOfAllPonds() {
        SaltRow x = withSea();
        x.pump(0, 7, 20);
        x.pass(1, 9, 9, 0);
        x.pass(1, 0, 0, 20);
        // 40 less 6, 20 less 6; 3 of 6 of FRESH mix in each POND
        due("BRINE", () -> x.many(14), 34 + 14 + 8 * 3);
        due("SALT", () -> x.many(5), 1800);
        due("FRESH", () -> x.many(15), 8 * 3);
        SaltRow y = withSea();
        y.pump(0, 4, 20);
        y.pump(0, 7, 20);
        y.pass(30, 9, 9, 0);
        due("SALT of CRUSTS: 300, 300 and 300", () -> y.many(6), 900);
        due("DIRT of CRUSTS: 32, 32 and 32", () -> y.many(12), 96);
    }

    private static void p19ManyOfAllFamilies() {
        SaltRow x = withFamily(1, 4);
        x.family();
        x.right(1, 5, 8);
        for (int k = 0; k < 2; k++) {
            x.pass(1, 9, 0, 0);
            x.flower(5);
        }
        due("1 and 2 each DAY, on HEAPS", () -> x.many(7), 6);
        x.sell(0, 1, 10);
        x.sell(1, 2, 10);
        x.sell(1, 1, 10);
        due("SOLD", () -> x.many(8), 4);
        due("left on HEAPS", () -> x.many(7), 2);
        x.wash(0);
        x.wash(1);
        due("LOST by both", () -> x.many(9), 2);
    }

    private static void p19ManyOfAllHarvests() {
        SaltRow x = withCrust(1);
        for (int k = 1; k <= 3; k++) {
            x.harvest(5, false);
            x.pass(1, 0, 0, 0);
            due("the CROWN's", () -> x.many(10), 20 * k);
            due("the CLOISTER's", () -> x.many(11), 180 * k);
        }
    }

    private static void p19ManyThatAreEver() {
        SaltRow x = withSea();
        x.pass(1, 0, 0, 40);
        x.skim(0);
        x.skim(1);
        due("SKIMMED", () -> x.many(16), 12);
        x.pump(0, 1, 11);
        x.pump(1, 0, 1);
        due("COINS of the WORKS", () -> x.many(17), -3);
        x.pass(5, 0, 0, 0);
        due("TIDE of DAY 7", () -> x.tide(x.many(0)), 2);
        int salt = x.many(5);
        x.drain(0);
        x.drain(1);
        due("LOST", () -> x.many(9), salt);
        x.gate(0, true);
        x.pass(1, 0, 0, 0);
        due("from the SEA", () -> x.many(4), 1800 + 30 * (30 * 3 / 4));
    }

    private static void p19NoSaltIsMissing() {
        SaltRow x = withFamily(1, 11);
        x.harvest(5, false);
        x.wash(0);
        x.sell(0, 10, 99);
        x.pass(1, 9, 0, 0);
        x.flower(5);
        x.drain(5);
        due("SALT of the SEA is somewhere", () -> x.many(5) + x.many(6) + x.many(7) + x.many(8) + x.many(9) + x.many(10)
                + x.many(11), x.many(4));
    }

    private static void p20MeanStrengthWithoutBrine() {
        SaltRow x = new SaltRow();
        due("none", () -> x.meanStrength(), 0.0);
        SaltRow y = withCrust(1);
        y.drain(5);
        due("CRUSTS alone", () -> y.meanStrength(), 0.0);
    }

    private static void p20MeanStrengthOfThoseWithBrine() {
        SaltRow x = withCrust(1);
        due("one of 90", () -> x.meanStrength(), 90.0);
        SaltRow y = new SaltRow();
        y.area(0, 1);
        y.pass(1, 0, 0, 40);
        due("BRINE of rain counts, with 0", () -> y.meanStrength(), 0.0);
        SaltRow z = withSea();
        z.pass(1, 0, 0, 4);
        // the POND 0 has 61 with 2160; seven have 1 of rain
        due("7 and seven times 0", () -> z.meanStrength(), 7 / 8.0);
    }

    private static void p20MeanStrengthIsNotRounded() {
        SaltRow x = withSea();
        x.pass(1, 9, 9, 0);
        x.pump(0, 5, 7);
        x.pump(0, 6, 7);
        due("8, 7 and 7", () -> x.meanStrength(), 22 / 3.0);
    }

    // ---- 21 to 25: what would be

    private static void p21CrustInOfPans() {
        SaltRow x = withSea();
        x.pump(0, 5, 20);
        x.pump(0, 7, 20);
        refused("PAN 4", x, () -> x.crustIn(4, 9, 9), INDEX);
        // 20, 14, 9, 5, 3, 2 and 1 of BRINE: 2 hold all 600
        unchanged("PAN 5", x, () -> x.crustIn(5, 9, 9), 6);
        unchanged("PAN 6", x, () -> x.crustIn(6, 9, 9), NONE);
        unchanged("PAN 7", x, () -> x.crustIn(7, 9, 9), 6);
        refused("PAN 8", x, () -> x.crustIn(8, 9, 9), INDEX);
        SaltRow y = withSea();
        y.pump(0, 5, 20);
        due("by letting DAYS go by", () -> daysToCrust(y, 5, 9, 9), 6);
    }

    private static int daysToCrust(SaltRow x, int pan, int sun, int wind) {
        int before = x.ofPond(pan, 6);
        for (int k = 1; k <= 70; k++) {
            x.pass(1, sun, wind, 0);
            if (x.ofPond(pan, 6) > before) {
                return k;
            }
        }
        return NONE;
    }

    private static void p21CrustInOfSunAndWind() {
        SaltRow x = withSea();
        x.pump(0, 5, 20);
        refused("SUN -1", x, () -> x.crustIn(5, -1, 0), ARGUMENT);
        refused("SUN 10", x, () -> x.crustIn(5, 10, 0), ARGUMENT);
        refused("WIND -1", x, () -> x.crustIn(5, 0, -1), ARGUMENT);
        refused("WIND 10", x, () -> x.crustIn(5, 0, 10), ARGUMENT);
        refused("the PAN is named first", x, () -> x.crustIn(8, 10, 10), INDEX);
        unchanged("0 and 0", x, () -> x.crustIn(5, 0, 0), NONE);
        unchanged("9 and 0", x, () -> x.crustIn(5, 9, 0), x.crustIn(5, 0, 9));
    }

    /** BRINE of the SEA in the PAN 5: with SUN 1 one of it goes each DAY, as 3 times (100 less STRENGTH) is below 1000. */
    private static SaltRow slowPan(int brine) {
        SaltRow x = new SaltRow();
        x.area(0, 9);
        letSeaIn(x);
        x.pump(0, 5, brine);
        return x;
    }

    private static void p21CrustInOn60DaysAndOn61() {
        // 7 of BRINE hold 2100 of the 1980 that came with 66, or of the 2010 that came with 67; 6 hold 1800
        SaltRow x = slowPan(66);
        due("66 to 6", () -> x.crustIn(5, 1, 0), 60);
        due("by letting DAYS go by", () -> daysToCrust(slowPan(66), 5, 1, 0), 60);
        SaltRow y = slowPan(67);
        due("67 to 6 are 61 DAYS", () -> y.crustIn(5, 1, 0), NONE);
        due("by letting DAYS go by", () -> daysToCrust(slowPan(67), 5, 1, 0), 61);
        y.pass(1, 1, 0, 0);
        due("a DAY later", () -> y.crustIn(5, 1, 0), 60);
        SaltRow z = slowPan(65);
        due("65 to 6 are 59 DAYS", () -> z.crustIn(5, 1, 0), 59);
    }

    private static void p21CrustInOneDay() {
        SaltRow x = slowPan(66);
        x.pass(30, 1, 0, 0);
        x.pass(29, 1, 0, 0);
        due("7 of BRINE", () -> x.ofPond(5, 1), 7);
        unchanged("one DAY", x, () -> x.crustIn(5, 1, 0), 1);
        due("it falls", () -> x.pass(1, 1, 0, 0), 180);
    }

    private static void p21CrustInOfACrustThatIsThere() {
        SaltRow x = withCrust(1);
        due("a CRUST", () -> x.ofPond(5, 6), 1500);
        unchanged("no more falls", x, () -> x.crustIn(5, 9, 9), NONE);
    }

    private static void p21CrustInOfOneThatFalls() {
        SaltRow x = mixed(1, 10, 0, 0, 1);
        SaltRow y = mixed(1, 10, 0, 0, 1);
        int days = daysToCrust(y, 5, 9, 9);
        due("SALT of 1 fell", () -> y.ofPond(5, 6), 1);
        due("behind as many DAYS", () -> x.crustIn(5, 9, 9), days);
        SaltRow z = mixed(1, 10, 0, 0, 0);
        due("none of 300", () -> z.crustIn(5, 9, 9), NONE);
    }

    private static void p21CrustInWithoutBrine() {
        SaltRow x = new SaltRow();
        unchanged("none", x, () -> x.crustIn(5, 9, 9), NONE);
    }

    /** The PAN 5 (AREA 9) had a CRUST of so many of the SEA's; RAIN took some of it back, 15 of FRESH are left. */
    private static SaltRow rainedOn(int sea) {
        SaltRow x = dried(9, sea, 0, 0, 0);
        x.cover(5, false);
        x.pass(1, 0, 0, 34);
        return x;
    }

    private static int daysUntilItFalls(SaltRow x, int sun, int wind) {
        for (int k = 1; k <= 60; k++) {
            if (x.pass(1, sun, wind, 0) > 0) {
                return k;
            }
        }
        return NONE;
    }

    private static void p21CrustInWithFreshThatIsThere() {
        for (int sea = 11; sea <= 40; sea++) {
            SaltRow x = rainedOn(sea);
            due("15 of FRESH", () -> x.ofPond(5, 5), 15);
            due("SUN 3, WIND 1, with " + sea, () -> x.crustIn(5, 3, 1), daysUntilItFalls(rainedOn(sea), 3, 1));
            due("WIND 1, with " + sea, () -> x.crustIn(5, 0, 1), daysUntilItFalls(rainedOn(sea), 0, 1));
        }
    }

    private static void p21CrustInWithGatesAsTheyAre() {
        SaltRow x = withSea();
        x.pump(0, 4, 20);
        unchanged("the GATE 5 is shut", x, () -> x.crustIn(5, 9, 9), NONE);
        x.gate(5, true);
        SaltRow y = withSea();
        y.pump(0, 4, 20);
        y.gate(5, true);
        unchanged("the GATE 5 is open", x, () -> x.crustIn(5, 9, 9), daysToCrust(y, 5, 9, 9));
    }

    private static void p21CrustInBeyondDay5000() {
        SaltRow x = emptyOn(4980);
        x.gate(0, true);
        x.pass(20, 0, 0, 0);
        x.pump(0, 5, 20);
        due("DAY 5000", () -> x.many(0), 5000);
        unchanged("6 DAYS more", x, () -> x.crustIn(5, 9, 9), 6);
    }

    private static void p22BestGatesOfDays() {
        SaltRow x = withSea();
        x.pump(0, 4, 30);
        refused("0", x, () -> x.bestGates(0, 0, 0), ARGUMENT);
        unchanged("1", x, () -> x.bestGates(1, 0, 0), 32);
        unchanged("9", x, () -> x.bestGates(9, 0, 0), bestByTrying(EdgesTest::seaAndPond4, 9, 0, 0));
        refused("10", x, () -> x.bestGates(10, 0, 0), ARGUMENT);
    }

    private static SaltRow seaAndPond4() {
        SaltRow x = withSea();
        x.pump(0, 4, 30);
        return x;
    }

    /** The smallest of the sets of GATES with most SALT in the PANS, by letting the DAYS go by for each. */
    private static int bestByTrying(Made made, int days, int sun, int wind) {
        int best = NONE;
        int most = NONE;
        for (int set = 0; set < 256; set++) {
            SaltRow x = made.make();
            for (int pond = 0; pond < 8; pond++) {
                x.gate(pond, (set >> pond) % 2 == 1);
            }
            x.pass(days, sun, wind, 0);
            int salt = 0;
            for (int pan = 5; pan < 8; pan++) {
                salt += x.ofPond(pan, 2) + x.ofPond(pan, 6);
            }
            best = salt > most ? set : best;
            most = Math.max(salt, most);
        }
        return best;
    }

    private static void p22BestGatesOfSunAndWind() {
        SaltRow x = seaAndPond4();
        refused("SUN -1", x, () -> x.bestGates(1, -1, 0), ARGUMENT);
        refused("SUN 10", x, () -> x.bestGates(1, 10, 0), ARGUMENT);
        refused("WIND -1", x, () -> x.bestGates(1, 0, -1), ARGUMENT);
        refused("WIND 10", x, () -> x.bestGates(1, 0, 10), ARGUMENT);
        unchanged("9 and 9", x, () -> x.bestGates(2, 9, 9), bestByTrying(EdgesTest::seaAndPond4, 2, 9, 9));
    }

    private static void p22BestGatesOfSeveral() {
        SaltRow x = new SaltRow();
        unchanged("all 256 are the same", x, () -> x.bestGates(1, 9, 9), 0);
        for (int pond = 0; pond < 8; pond++) {
            x.gate(pond, true);
        }
        unchanged("with all open now", x, () -> x.bestGates(1, 9, 9), 0);
    }

    private static void p22BestGatesWithSaltInThePansAlone() {
        SaltRow x = withSea();
        x.pump(0, 6, 60);
        unchanged("it stays there", x, () -> x.bestGates(3, 5, 5), 0);
        SaltRow y = withCrust(1);
        unchanged("a CRUST counts", y, () -> y.bestGates(3, 5, 5), 0);
    }

    private static void p22BestGatesFillsThemByAll() {
        SaltRow x = fullPonds();
        unchanged("9 DAYS", x, () -> x.bestGates(9, 2, 2), bestByTrying(EdgesTest::fullPonds, 9, 2, 2));
    }

    private static SaltRow fullPonds() {
        SaltRow x = new SaltRow();
        for (int pond = 0; pond < 5; pond++) {
            x.area(pond, 9 - pond);
            x.gate(pond, true);
        }
        x.pass(30, 1, 1, 0);
        return x;
    }

    /** AREAS of 9 to 5 and of PANS of 3, all GATES open. */
    private static SaltRow flowing(int days, int sun, int wind, int moreDays, int moreSun, int moreWind) {
        SaltRow x = new SaltRow();
        for (int pond = 0; pond < 5; pond++) {
            x.area(pond, 9 - pond);
        }
        for (int pond = 0; pond < 8; pond++) {
            x.gate(pond, true);
        }
        x.pass(days, sun, wind, 0);
        x.pass(moreDays, moreSun, moreWind, 0);
        return x;
    }

    private static void p22BestGatesWithSaltOfBrineAndCrusts() {
        Made made = () -> flowing(8, 9, 0, 12, 8, 7);
        SaltRow x = made.make();
        due("with all of it", () -> x.bestGates(4, 9, 9), bestByTrying(made, 4, 9, 9));
        SaltRow y = made.make();
        due("which is another set than with that of BRINE alone", () -> y.bestGates(4, 9, 9), 252);
    }

    private static void p22BestGatesOfOneDayMoreOrLess() {
        SaltRow x = flowing(4, 4, 5, 5, 9, 3);
        due("2 DAYS", () -> x.bestGates(2, 6, 2), 48);
        due("3 DAYS", () -> x.bestGates(3, 6, 2), 112);
        due("4 DAYS", () -> x.bestGates(4, 6, 2), 124);
        due("SUN 5", () -> x.bestGates(3, 5, 2), 120);
        due("SUN 7", () -> x.bestGates(3, 7, 2), 120);
        due("WIND 1", () -> x.bestGates(3, 6, 1), 120);
        due("WIND 3", () -> x.bestGates(3, 6, 3), 120);
        due("by letting DAYS go by", () -> x.bestGates(3, 6, 2), bestByTrying(() -> flowing(4, 4, 5, 5, 9, 3), 3, 6, 2));
    }

    private static void p22BestGatesBeyondDay5000() {
        SaltRow x = emptyOn(5000);
        unchanged("9 DAYS more", x, () -> x.bestGates(9, 1, 1), bestByTrying(() -> emptyOn(5000 - 14), 9, 1, 1));
    }

    private static void p23WouldBeOfPansAndFamilies() {
        SaltRow x = withFamily(1, 12);
        refused("PAN 4", x, () -> x.wouldBe(4, false, 0), INDEX);
        refused("PAN 8", x, () -> x.wouldBe(8, false, 0), INDEX);
        refused("FAMILY -1", x, () -> x.wouldBe(5, false, -1), INDEX);
        refused("FAMILY 1 of one", x, () -> x.wouldBe(5, false, 1), INDEX);
        refused("no FAMILY, and no SALT", x, () -> x.wouldBe(7, false, 1), INDEX);
        unchanged("PAN 5", x, () -> x.wouldBe(5, false, 0), 100 * 180 / (180 + 36));
        unchanged("PAN 7, without SALT", x, () -> x.wouldBe(7, false, 0), NONE);
    }

    private static void p23WouldBeByRakesAndByAMachine() {
        SaltRow x = withFamily(9, 12);
        unchanged("1350 and 272", x, () -> x.wouldBe(5, false, 0), 83);
        unchanged("1350 and 362", x, () -> x.wouldBe(5, true, 0), 78);
    }

    private static void p23WouldBeOfACrustWithoutSalt() {
        SaltRow x = dried(1, 10, 0, 0, 0);
        x.family();
        due("DIRT alone", () -> x.ofPond(5, 7), 12);
        unchanged("it can't be", x, () -> x.wouldBe(5, true, 0), NONE);
    }

    private static void p23WouldBeOfAPanHarvestedThisDay() {
        SaltRow x = withFamily(1, 12);
        x.harvest(5, false);
        unchanged("it can't be", x, () -> x.wouldBe(5, false, 0), NONE);
        x.pass(1, 9, 0, 0);
        unchanged("the next DAY", x, () -> x.wouldBe(5, false, 0), 100 * 360 / (360 + 72));
        x.flower(5);
        unchanged("by FLOWERS", x, () -> x.wouldBe(5, false, 0), NONE);
    }

    private static void p23WouldBeWithoutRights() {
        SaltRow x = withFamily(1, 0);
        unchanged("an empty HEAP", x, () -> x.wouldBe(5, false, 0), 0);
        x.right(0, 5, 12);
        x.pass(1, 9, 0, 0);
        x.flower(5);
        x.pass(1, 9, 0, 0);
        x.right(0, 5, 0);
        unchanged("a HEAP of SALT alone", x, () -> x.wouldBe(5, true, 0), 100);
    }

    private static void p23WouldBeOfAHeapThatIsThere() {
        SaltRow x = withFamily(1, 12);
        x.harvest(5, false);
        x.pass(1, 0, 0, 0);
        x.wash(0);
        // 171 and 18, with 180 and 36 more
        unchanged("together", x, () -> x.wouldBe(5, false, 0), 100 * 351 / (351 + 54));
    }

    private static void p24TideOnOfTides() {
        SaltRow x = new SaltRow();
        refused("-1 and more", x, () -> x.tideOn(-1, true), ARGUMENT);
        refused("-1 and less", x, () -> x.tideOn(-1, false), ARGUMENT);
        unchanged("0 and more", x, () -> x.tideOn(0, true), 0);
        unchanged("0 and less", x, () -> x.tideOn(0, false), NONE);
        unchanged("20 and more", x, () -> x.tideOn(20, true), NONE);
        unchanged("20 and less", x, () -> x.tideOn(20, false), 0);
        refused("21 and more", x, () -> x.tideOn(21, true), ARGUMENT);
        refused("21 and less", x, () -> x.tideOn(21, false), ARGUMENT);
    }

    private static void p24TideOnOf2And9() {
        SaltRow x = new SaltRow();
        due("1 and less", () -> x.tideOn(1, false), NONE);
        due("2 and less", () -> x.tideOn(2, false), 7);
        due("9 and more", () -> x.tideOn(9, true), 0);
        due("10 and more", () -> x.tideOn(10, true), NONE);
    }

    private static void p24TideOnThisDay() {
        SaltRow x = emptyOn(7);
        due("2 and less", () -> x.tideOn(2, false), 7);
        due("2 and more", () -> x.tideOn(2, true), 7);
        due("3 and more", () -> x.tideOn(3, true), 8);
    }

    private static void p24TideOnTheLastOf14() {
        SaltRow x = emptyOn(8);
        due("2 and less, 13 DAYS later", () -> x.tideOn(2, false), 21);
        SaltRow y = emptyOn(1);
        due("9 and more, 13 DAYS later", () -> y.tideOn(9, true), 14);
    }

    private static void p24TideOnBeyondDay5000() {
        SaltRow x = emptyOn(5000);
        due("TIDE of DAY 5000", () -> x.tideOn(7, true), 5000);
        due("9 and more", () -> x.tideOn(9, true), 5012);
        due("2 and less", () -> x.tideOn(2, false), 5005);
    }

    private static void p25DigestWrapsAround() {
        SaltRow x = new SaltRow();
        BigInteger whole = withoutWrap(x);
        due("the whole number has 500 bits and more", () -> whole.bitLength() > 500, true);
        due("its lowest 64", () -> x.digest(), whole.longValue());
    }

    private static void p25DigestOfNegativeNumbers() {
        SaltRow x = withSea();
        x.pump(0, 1, 60);
        due("COINS of the WORKS", () -> x.many(17), -6);
        due("its lowest 64", () -> x.digest(), withoutWrap(x).longValue());
    }

    private static void p25DigestOfSixFamilies() {
        SaltRow x = withCrust(1);
        for (int k = 0; k < 6; k++) {
            x.family();
            x.right(k, 5, k == 0 ? 1 : 2);
            x.right(k, 7, 2);
        }
        x.harvest(5, true);
        x.wash(5);
        due("its lowest 64", () -> x.digest(), withoutWrap(x).longValue());
    }

    private static void p25DigestOfGatesThatAreBest() {
        SaltRow x = flowing(4, 4, 5, 5, 9, 3);
        due("a set of its own", () -> x.bestGates(3, 6, 2), 112);
        due("its lowest 64", () -> x.digest(), withoutWrap(x).longValue());
    }

    private static SaltRow largePan() {
        SaltRow x = new SaltRow();
        x.area(0, 9);
        x.area(5, 9);
        letSeaIn(x);
        x.pump(0, 5, 180);
        return x;
    }

    private static void p25DigestOfCrustsThatWouldFall() {
        int[][] of = {{6, 3, 23}, {7, 2, 23}, {7, 3, 21}, {8, 3, 19}, {7, 4, 19}};
        SaltRow x = largePan();
        for (int[] a : of) {
            due("SUN " + a[0] + ", WIND " + a[1], () -> x.crustIn(5, a[0], a[1]), a[2]);
            due("by letting DAYS go by", () -> daysToCrust(largePan(), 5, a[0], a[1]), a[2]);
        }
        due("its lowest 64", () -> x.digest(), withoutWrap(x).longValue());
    }

    private static void p25DigestOnDay5000() {
        SaltRow x = emptyOn(5000);
        x.gate(0, true);
        unchanged("its lowest 64", x, () -> x.digest(), withoutWrap(x).longValue());
    }

    private static void p25DigestChangesNothing() {
        SaltRow x = withFamily(1, 12);
        long first = x.digest();
        for (int k = 0; k < 5; k++) {
            due("again", () -> x.digest(), first);
        }
    }

    private static BigInteger withoutWrap(SaltRow x) {
        BigInteger d = BigInteger.valueOf(7804);
        for (int what = 0; what <= 17; what++) {
            d = next(d, x.many(what));
        }
        for (int pond = 0; pond < 8; pond++) {
            for (int what = 0; what <= 10; what++) {
                d = next(d, x.ofPond(pond, what));
            }
        }
        for (int family = 0; family < x.many(1); family++) {
            for (int what = 0; what <= 5; what++) {
                d = next(d, x.ofFamily(family, what));
            }
            for (int pan = 5; pan <= 7; pan++) {
                d = next(d, x.rightOf(family, pan));
            }
        }
        for (int pan = 5; pan <= 7; pan++) {
            d = next(d, x.crustIn(pan, 7, 3));
        }
        d = next(d, x.bestGates(3, 6, 2));
        d = next(d, x.tideOn(9, true));
        return next(d, x.tideOn(3, false));
    }

    private static BigInteger next(BigInteger d, int v) {
        return d.multiply(BigInteger.valueOf(31)).add(BigInteger.valueOf(v));
    }

    // ---- how long an object is used

    private static void usedFor512Calls() {
        SaltRow x = new SaltRow();
        x.gate(0, true);
        for (int k = 0; k < 500; k++) {
            x.pass(1, 9, 9, 0);
        }
        SaltRow y = new SaltRow();
        y.gate(0, true);
        for (int k = 0; k < 16; k++) {
            y.pass(30, 9, 9, 0);
        }
        y.pass(20, 9, 9, 0);
        due("the 502nd call", () -> x.many(0), 500);
        for (int what = 4; what <= 12; what++) {
            int it = what;
            due("the calls up to the 511th", () -> x.many(it), y.many(it));
        }
        due("the 512th call", () -> x.digest(), y.digest());
    }
}
