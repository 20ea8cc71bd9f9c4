/** Salt by sun and tide: eight ponds in a row behind the sea, the last three of them pans. */
public final class SaltRow {
    private static final int NONE = -1;
    private static final int NOBODY_TAKES_IT = -2;

    private static final int PONDS = 8;
    private static final int FIRST_PAN = 5;
    private static final int PANS = 3;
    private static final int FAMILIES = 6;
    private static final int TWELFTHS = 12;
    private static final int GATE_SETS = 256;

    private static final int LARGEST_AREA = 9;
    private static final int LAST_DAY = 5000;
    private static final int LAST_TIDE_DAY = 9999;
    private static final int TIDE_DAYS = 14;
    private static final int LOWEST_TIDE = 2;
    private static final int DRAIN_TIDE = 4;
    private static final int LARGEST_TIDE_ASKED = 20;

    private static final int MOST_DAYS = 30;
    private static final int MOST_SUN = 9;
    private static final int MOST_WIND = 9;
    private static final int MOST_RAIN = 40;
    private static final int CRUST_DAYS = 60;
    private static final int BEST_GATES_DAYS = 9;

    private static final int SEA_SALT = 30;
    private static final int SEA_GYPSUM = 2;
    private static final int SEA_BITTER = 6;
    private static final int MOST_STRENGTH = 90;
    private static final int GYPSUM_HELD = 8;
    private static final int SALT_HELD = 300;
    private static final int BITTER_HELD = 200;

    private static final int FLOWER_SUN = 6;
    private static final int FLOWER_WIND = 2;
    private static final int FLOWER_STRENGTH = 55;
    private static final int PURE = 97;
    private static final int LEAST_PURITY_SOLD = 90;
    private static final int HIGHEST_PRICE = 99;

    private static final int LAST_OF_POND = 10;
    private static final int LAST_OF_FAMILY = 5;
    private static final int LAST_OF_MANY = 17;
    private static final long DIGEST_START = 7804L;

    private final Row row;
    // A second row for what would be, filled anew by each question instead of being made anew.
    private final Row trial;
    private final Family[] families;
    private int familyCount;
    private int skimmed;
    private int lostSalt;
    private int crownSalt;
    private int cloisterSalt;
    private int cloisterDirt;
    private int worksCoins;

    public SaltRow() {
        row = new Row();
        trial = new Row();
        families = new Family[FAMILIES];
        for (int k = 0; k < families.length; k++) {
            families[k] = new Family();
        }
    }

    // ---- the row

    public int area(int pond, int area)
            throws IndexOutOfBoundsException, IllegalArgumentException, IllegalStateException {
        needPond(pond);
        if (area < 1 || area > LARGEST_AREA) {
            throw new IllegalArgumentException("area is not 1 to 9");
        }
        if (row.day > 0) {
            throw new IllegalStateException("DAY is above 0");
        }
        int before = row.ponds[pond].area;
        row.ponds[pond].area = area;
        return before;
    }

    public boolean gate(int pond, boolean is) throws IndexOutOfBoundsException {
        needPond(pond);
        boolean before = row.ponds[pond].isOpen;
        row.ponds[pond].isOpen = is;
        return before;
    }

    public boolean cover(int pan, boolean is) throws IndexOutOfBoundsException {
        needPan(pan);
        boolean before = row.ponds[pan].isCovered;
        row.ponds[pan].isCovered = is;
        return before;
    }

    public int pass(int days, int sun, int wind, int rain)
            throws IllegalArgumentException, IllegalStateException {
        if (days < 1 || days > MOST_DAYS) {
            throw new IllegalArgumentException("days is not 1 to 30");
        }
        needWeather(sun, wind);
        if (rain < 0 || rain > MOST_RAIN) {
            throw new IllegalArgumentException("rain is not 0 to 40");
        }
        if (row.day + days > LAST_DAY) {
            throw new IllegalStateException("DAY would be above 5000");
        }
        int fallen = 0;
        for (int k = 0; k < days; k++) {
            row.letDayGoBy(sun, wind, rain);
            fallen += row.saltFallenInPans();
        }
        return fallen;
    }

    // ---- by hand

    public int skim(int pond) throws IndexOutOfBoundsException {
        needPond(pond);
        int gone = row.ponds[pond].fresh;
        row.ponds[pond].fresh = 0;
        skimmed += gone;
        return gone;
    }

    public int drain(int pond) throws IndexOutOfBoundsException, IllegalStateException {
        needPond(pond);
        if (row.ponds[pond].brine < 1) {
            throw new IllegalStateException("the POND has no BRINE");
        }
        if (tideAt(row.day) > DRAIN_TIDE) {
            throw new IllegalStateException("the TIDE is above 4");
        }
        int gone = row.ponds[pond].brine;
        lostSalt += row.ponds[pond].salt;
        row.ponds[pond].loseAllBrine();
        return gone;
    }

    public int pump(int from, int to, int much)
            throws IndexOutOfBoundsException, IllegalArgumentException, IllegalStateException {
        needPond(from);
        needPond(to);
        if (from == to) {
            throw new IllegalArgumentException("both PONDS are the same");
        }
        if (much < 1) {
            throw new IllegalArgumentException("much is below 1");
        }
        if (row.ponds[from].brine < much) {
            throw new IllegalStateException("there is less BRINE");
        }
        row.ponds[from].giveBrine(row.ponds[to], much);
        worksCoins -= roundedUp(much, 10);
        return row.ponds[to].strength();
    }

    // ---- rights and heaps

    public int family() throws IllegalStateException {
        if (familyCount >= FAMILIES) {
            throw new IllegalStateException("there are 6 FAMILIES");
        }
        familyCount++;
        return familyCount - 1;
    }

    public int right(int family, int pan, int twelfths)
            throws IndexOutOfBoundsException, IllegalArgumentException, IllegalStateException {
        needFamily(family);
        needPan(pan);
        if (twelfths < 0 || twelfths > TWELFTHS) {
            throw new IllegalArgumentException("twelfths is not 0 to 12");
        }
        int before = families[family].rights[pan - FIRST_PAN];
        if (rightsIn(pan) - before + twelfths > TWELFTHS) {
            throw new IllegalStateException("all RIGHTS in the PAN would be more than 12");
        }
        families[family].rights[pan - FIRST_PAN] = twelfths;
        return before;
    }

    public int harvest(int pan, boolean isMachine) throws IndexOutOfBoundsException, IllegalStateException {
        needPan(pan);
        Pond from = row.ponds[pan];
        if (!from.canBeHarvested()) {
            throw new IllegalStateException("no SALT in the CRUST, or harvested this DAY");
        }
        int salt = from.saltOfHarvest(isMachine);
        int dirtOfCrust = from.dirtOfCrustWith(salt);
        int dirt = dirtOfCrust + from.dirtOfFloor(isMachine);
        from.crustSalt -= salt;
        from.crustDirt -= dirtOfCrust;
        from.wasHarvested = true;
        crownSalt += crownsPart(salt);
        shareOut(pan, salt - crownsPart(salt), dirt);
        return salt;
    }

    public int flower(int pan) throws IndexOutOfBoundsException, IllegalStateException {
        needPan(pan);
        Pond from = row.ponds[pan];
        if (row.sun < FLOWER_SUN || row.wind > FLOWER_WIND || from.strength() < FLOWER_STRENGTH) {
            throw new IllegalStateException("SUN, WIND or STRENGTH do not let it");
        }
        if (from.wasHarvested) {
            throw new IllegalStateException("the PAN was harvested this DAY");
        }
        int salt = Math.min(3 * from.area, from.salt);
        from.salt -= salt;
        from.wasHarvested = true;
        shareOut(pan, salt, 0);
        return salt;
    }

    public int wash(int family) throws IndexOutOfBoundsException, IllegalStateException {
        needFamily(family);
        Family of = families[family];
        if (of.salt < 1) {
            throw new IllegalStateException("the HEAP has no SALT");
        }
        int lost = roundedUp(of.salt, 20);
        of.dirt -= roundedUp(of.dirt, 2);
        of.salt -= lost;
        lostSalt += lost;
        return purity(of.salt, of.dirt);
    }

    public int sell(int family, int salt, int price)
            throws IndexOutOfBoundsException, IllegalArgumentException, IllegalStateException {
        needFamily(family);
        if (salt < 1) {
            throw new IllegalArgumentException("salt is below 1");
        }
        if (price < 1 || price > HIGHEST_PRICE) {
            throw new IllegalArgumentException("price is not 1 to 99");
        }
        Family of = families[family];
        if (of.salt < salt) {
            throw new IllegalStateException("there is less SALT");
        }
        int purity = purity(of.salt, of.dirt);
        if (purity < LEAST_PURITY_SOLD) {
            return NOBODY_TAKES_IT;
        }
        int whole = portion(salt, price, 10);
        int coins = purity < PURE ? whole / 2 : whole;
        of.sellSalt(salt, coins);
        return coins;
    }

    // ---- what is asked

    public int ofPond(int pond, int what) throws IndexOutOfBoundsException, IllegalArgumentException {
        needPond(pond);
        if (what < 0 || what > LAST_OF_POND) {
            throw new IllegalArgumentException("what is not 0 to 10");
        }
        return row.ponds[pond].read(what);
    }

    public int ofFamily(int family, int what) throws IndexOutOfBoundsException, IllegalArgumentException {
        needFamily(family);
        if (what < 0 || what > LAST_OF_FAMILY) {
            throw new IllegalArgumentException("what is not 0 to 5");
        }
        return families[family].read(what);
    }

    public int rightOf(int family, int pan) throws IndexOutOfBoundsException {
        needFamily(family);
        needPan(pan);
        return families[family].rights[pan - FIRST_PAN];
    }

    public int tide(int day) throws IllegalArgumentException {
        if (day < 0 || day > LAST_TIDE_DAY) {
            throw new IllegalArgumentException("day is not 0 to 9999");
        }
        return tideAt(day);
    }

    public int many(int what) throws IllegalArgumentException {
        switch (what) {
            case 0:
                return row.day;
            case 1:
                return familyCount;
            case 2:
                return row.openGates();
            case 3:
                return row.coveredPans();
            case 4:
                return row.seaSalt;
            case 5:
                return row.sumOfPonds(2);
            case 6:
                return row.sumOfPonds(6);
            case 7:
                return sumOfFamilies(0);
            case 8:
                return sumOfFamilies(5);
            case 9:
                return lostSalt;
            case 10:
                return crownSalt;
            case 11:
                return cloisterSalt;
            case 12:
                return row.sumOfPonds(7);
            case 13:
                return cloisterDirt;
            case 14:
                return row.sumOfPonds(1);
            case 15:
                return row.sumOfPonds(5);
            case 16:
                return skimmed;
            case 17:
                return worksCoins;
            default:
                throw new IllegalArgumentException("what is not 0 to 17");
        }
    }

    public double meanStrength() {
        int sum = 0;
        int count = 0;
        for (int k = 0; k < PONDS; k++) {
            if (row.ponds[k].brine > 0) {
                sum += row.ponds[k].strength();
                count++;
            }
        }
        return count > 0 ? (double) sum / count : 0.0;
    }

    // ---- what would be

    public int crustIn(int pan, int sun, int wind) throws IndexOutOfBoundsException, IllegalArgumentException {
        needPan(pan);
        needWeather(sun, wind);
        trial.copyFrom(row);
        for (int days = 1; days <= CRUST_DAYS; days++) {
            trial.letDayGoBy(sun, wind, 0);
            if (trial.ponds[pan].saltFallen > 0) {
                return days;
            }
        }
        return NONE;
    }

    public int bestGates(int days, int sun, int wind) throws IllegalArgumentException {
        if (days < 1 || days > BEST_GATES_DAYS) {
            throw new IllegalArgumentException("days is not 1 to 9");
        }
        needWeather(sun, wind);
        int best = 0;
        int most = NONE;
        for (int set = 0; set < GATE_SETS; set++) {
            int salt = saltInPansWith(set, days, sun, wind);
            if (salt > most) {
                most = salt;
                best = set;
            }
        }
        return best;
    }

    public int wouldBe(int pan, boolean isMachine, int family) throws IndexOutOfBoundsException {
        needPan(pan);
        needFamily(family);
        Pond from = row.ponds[pan];
        if (!from.canBeHarvested()) {
            return NONE;
        }
        int salt = from.saltOfHarvest(isMachine);
        int dirt = from.dirtOfCrustWith(salt) + from.dirtOfFloor(isMachine);
        Family of = families[family];
        int twelfths = of.rights[pan - FIRST_PAN];
        return purity(of.salt + portion(salt - crownsPart(salt), twelfths, TWELFTHS),
                of.dirt + portion(dirt, twelfths, TWELFTHS));
    }

    public int tideOn(int tide, boolean isHigh) throws IllegalArgumentException {
        if (tide < 0 || tide > LARGEST_TIDE_ASKED) {
            throw new IllegalArgumentException("tide is not 0 to 20");
        }
        for (int k = 0; k < TIDE_DAYS; k++) {
            int there = tideAt(row.day + k);
            if (isHigh ? there >= tide : there <= tide) {
                return row.day + k;
            }
        }
        return NONE;
    }

    public long digest() {
        long d = DIGEST_START;
        for (int what = 0; what <= LAST_OF_MANY; what++) {
            d = d * 31 + many(what);
        }
        for (int pond = 0; pond < PONDS; pond++) {
            for (int what = 0; what <= LAST_OF_POND; what++) {
                d = d * 31 + ofPond(pond, what);
            }
        }
        for (int k = 0; k < familyCount; k++) {
            d = digestOfFamily(k, d);
        }
        for (int pan = FIRST_PAN; pan < PONDS; pan++) {
            d = d * 31 + crustIn(pan, 7, 3);
        }
        d = d * 31 + bestGates(3, 6, 2);
        d = d * 31 + tideOn(9, true);
        return d * 31 + tideOn(3, false);
    }

    // ---- what is behind them

    private long digestOfFamily(int family, long before) {
        long d = before;
        for (int what = 0; what <= LAST_OF_FAMILY; what++) {
            d = d * 31 + ofFamily(family, what);
        }
        for (int pan = FIRST_PAN; pan < PONDS; pan++) {
            d = d * 31 + rightOf(family, pan);
        }
        return d;
    }

    private int saltInPansWith(int set, int days, int sun, int wind) {
        trial.copyFrom(row);
        trial.setGates(set);
        for (int k = 0; k < days; k++) {
            trial.letDayGoBy(sun, wind, 0);
        }
        return trial.saltInPans();
    }

    private void shareOut(int pan, int salt, int dirt) {
        int saltLeft = salt;
        int dirtLeft = dirt;
        for (int k = 0; k < familyCount; k++) {
            int twelfths = families[k].rights[pan - FIRST_PAN];
            int saltOfIt = portion(salt, twelfths, TWELFTHS);
            int dirtOfIt = portion(dirt, twelfths, TWELFTHS);
            families[k].getSalt(saltOfIt, dirtOfIt);
            saltLeft -= saltOfIt;
            dirtLeft -= dirtOfIt;
        }
        cloisterSalt += saltLeft;
        cloisterDirt += dirtLeft;
    }

    private int rightsIn(int pan) {
        int sum = 0;
        for (int k = 0; k < familyCount; k++) {
            sum += families[k].rights[pan - FIRST_PAN];
        }
        return sum;
    }

    private int sumOfFamilies(int what) {
        int sum = 0;
        for (int k = 0; k < familyCount; k++) {
            sum += families[k].read(what);
        }
        return sum;
    }

    private void needPond(int pond) {
        if (pond < 0 || pond >= PONDS) {
            throw new IndexOutOfBoundsException("not a POND of 0 to 7");
        }
    }

    private void needPan(int pan) {
        if (pan < FIRST_PAN || pan >= PONDS) {
            throw new IndexOutOfBoundsException("not a PAN of 5 to 7");
        }
    }

    private void needFamily(int family) {
        if (family < 0 || family >= familyCount) {
            throw new IndexOutOfBoundsException("no such FAMILY");
        }
    }

    private void needWeather(int sun, int wind) {
        if (sun < 0 || sun > MOST_SUN) {
            throw new IllegalArgumentException("sun is not 0 to 9");
        }
        if (wind < 0 || wind > MOST_WIND) {
            throw new IllegalArgumentException("wind is not 0 to 9");
        }
    }

    private static int tideAt(int day) {
        return LOWEST_TIDE + Math.abs(day % TIDE_DAYS - TIDE_DAYS / 2);
    }

    private static int crownsPart(int salt) {
        return salt / 10;
    }

    private static int purity(int salt, int dirt) {
        return portion(salt, 100, (long) salt + dirt);
    }

    // In long, as such a product can be above what an int holds; 0 of nothing, so that nothing ever divides.
    private static int portion(long of, long times, long by) {
        return by < 1 ? 0 : (int) (of * times / by);
    }

    private static int roundedUp(int much, int by) {
        return by < 1 ? 0 : (much + by - 1) / by;
    }

    /** One pond, with its gate, its cover and its crust. */
    private static final class Pond {
        int area = 3;
        int brine;
        int salt;
        int gypsum;
        int bitter;
        int fresh;
        int crustSalt;
        int crustDirt;
        // How much salt fell to the crust on the latest day.
        int saltFallen;
        boolean isOpen;
        boolean isCovered;
        boolean wasHarvested;

        int level() {
            return portion(brine, 1, area);
        }

        int strength() {
            return Math.min(MOST_STRENGTH, portion((long) salt + bitter, 1, 5L * brine));
        }

        int read(int what) {
            switch (what) {
                case 0:
                    return area;
                case 1:
                    return brine;
                case 2:
                    return salt;
                case 3:
                    return gypsum;
                case 4:
                    return bitter;
                case 5:
                    return fresh;
                case 6:
                    return crustSalt;
                case 7:
                    return crustDirt;
                case 8:
                    return level();
                case 9:
                    return strength();
                default:
                    return wasHarvested ? 1 : 0;
            }
        }

        void copyFrom(Pond other) {
            area = other.area;
            brine = other.brine;
            salt = other.salt;
            gypsum = other.gypsum;
            bitter = other.bitter;
            fresh = other.fresh;
            crustSalt = other.crustSalt;
            crustDirt = other.crustDirt;
            saltFallen = other.saltFallen;
            isOpen = other.isOpen;
            isCovered = other.isCovered;
            wasHarvested = other.wasHarvested;
        }

        void loseAllBrine() {
            brine = 0;
            salt = 0;
            gypsum = 0;
            bitter = 0;
        }

        void giveBrine(Pond to, int much) {
            int saltOfIt = portion(salt, much, brine);
            int gypsumOfIt = portion(gypsum, much, brine);
            int bitterOfIt = portion(bitter, much, brine);
            takeIn(-much, -saltOfIt, -gypsumOfIt, -bitterOfIt);
            to.takeIn(much, saltOfIt, gypsumOfIt, bitterOfIt);
        }

        void takeIn(int moreBrine, int moreSalt, int moreGypsum, int moreBitter) {
            brine += moreBrine;
            salt += moreSalt;
            gypsum += moreGypsum;
            bitter += moreBitter;
        }

        void rainFalls(int rain) {
            if (!isCovered) {
                fresh += rain * area / 10;
            }
        }

        void dryOut(int sunAndWind) {
            int force = area * sunAndWind;
            int freshGone = Math.min(fresh, force / 10);
            fresh -= freshGone;
            force -= 10 * freshGone;
            brine -= Math.min(brine / 2, roundedUp(force * (100 - strength()), 1000));
        }

        void mixFresh() {
            int mixed = roundedUp(fresh, 2);
            int dissolved = Math.min(crustSalt, 4 * mixed);
            fresh -= mixed;
            brine += mixed;
            crustSalt -= dissolved;
            salt += dissolved;
        }

        void dropMinerals() {
            int gypsumFallen = above(gypsum, GYPSUM_HELD);
            int bitterFallen = above(bitter, BITTER_HELD);
            saltFallen = above(salt, SALT_HELD);
            gypsum -= gypsumFallen;
            salt -= saltFallen;
            bitter -= bitterFallen;
            crustSalt += saltFallen;
            crustDirt += gypsumFallen + bitterFallen;
        }

        int above(int much, int heldByOne) {
            return (int) Math.max(0L, much - (long) heldByOne * brine);
        }

        boolean canBeHarvested() {
            return crustSalt > 0 && !wasHarvested;
        }

        int saltOfHarvest(boolean isMachine) {
            return isMachine ? crustSalt : Math.min(crustSalt, 200 * area);
        }

        int dirtOfCrustWith(int saltTaken) {
            return portion(crustDirt, saltTaken, crustSalt);
        }

        int dirtOfFloor(boolean isMachine) {
            return isMachine ? 10 * area : 0;
        }
    }

    /** The ponds in their row, and the day that it is. */
    private static final class Row {
        final Pond[] ponds;
        int day;
        int sun;
        int wind;
        int seaSalt;

        Row() {
            ponds = new Pond[PONDS];
            for (int k = 0; k < ponds.length; k++) {
                ponds[k] = new Pond();
            }
        }

        void copyFrom(Row other) {
            day = other.day;
            sun = other.sun;
            wind = other.wind;
            seaSalt = other.seaSalt;
            for (int k = 0; k < PONDS; k++) {
                ponds[k].copyFrom(other.ponds[k]);
            }
        }

        void letDayGoBy(int sunOfIt, int windOfIt, int rain) {
            day++;
            sun = sunOfIt;
            wind = windOfIt;
            letSeaIn();
            letBrineFlowOn();
            for (int k = 0; k < PONDS; k++) {
                Pond pond = ponds[k];
                pond.wasHarvested = false;
                pond.rainFalls(rain);
                pond.dryOut(sun + wind);
                pond.mixFresh();
                pond.dropMinerals();
            }
        }

        void letSeaIn() {
            Pond first = ponds[0];
            int difference = 10 * tideAt(day) - first.level();
            if (first.isOpen && difference > 0) {
                int much = difference * first.area / 4;
                first.takeIn(much, SEA_SALT * much, SEA_GYPSUM * much, SEA_BITTER * much);
                seaSalt += SEA_SALT * much;
            }
        }

        void letBrineFlowOn() {
            for (int k = PONDS - 1; k > 0; k--) {
                Pond ahead = ponds[k - 1];
                Pond into = ponds[k];
                int difference = ahead.level() - into.level();
                if (into.isOpen && difference > 0) {
                    ahead.giveBrine(into, portion(difference, Math.min(ahead.area, into.area), 2));
                }
            }
        }

        void setGates(int set) {
            for (int k = 0; k < PONDS; k++) {
                ponds[k].isOpen = (set >> k & 1) == 1;
            }
        }

        int openGates() {
            int set = 0;
            for (int k = 0; k < PONDS; k++) {
                set += ponds[k].isOpen ? 1 << k : 0;
            }
            return set;
        }

        int coveredPans() {
            int set = 0;
            for (int k = 0; k < PONDS; k++) {
                set += ponds[k].isCovered ? 1 << k : 0;
            }
            return set;
        }

        int saltFallenInPans() {
            int sum = 0;
            for (int k = FIRST_PAN; k < PONDS; k++) {
                sum += ponds[k].saltFallen;
            }
            return sum;
        }

        int saltInPans() {
            int sum = 0;
            for (int k = FIRST_PAN; k < PONDS; k++) {
                sum += ponds[k].salt + ponds[k].crustSalt;
            }
            return sum;
        }

        int sumOfPonds(int what) {
            int sum = 0;
            for (int k = 0; k < PONDS; k++) {
                sum += ponds[k].read(what);
            }
            return sum;
        }
    }

    /** One family, with its heap of salt and dirt, its coins and its rights. */
    private static final class Family {
        final int[] rights = new int[PANS];
        int salt;
        int dirt;
        int coins;
        int saltGot;
        int saltSold;

        int read(int what) {
            switch (what) {
                case 0:
                    return salt;
                case 1:
                    return dirt;
                case 2:
                    return purity(salt, dirt);
                case 3:
                    return coins;
                case 4:
                    return saltGot;
                default:
                    return saltSold;
            }
        }

        void getSalt(int moreSalt, int moreDirt) {
            salt += moreSalt;
            dirt += moreDirt;
            saltGot += moreSalt;
        }

        void sellSalt(int much, int forCoins) {
            dirt -= portion(dirt, much, salt);
            salt -= much;
            saltSold += much;
            coins += forCoins;
        }
    }
}
