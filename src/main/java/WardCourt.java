/**
 * Wards of a court: an estate kept for orphans under laws that change by days,
 * with its payments, leases, idle interest, shares given over and accounts.
 *
 * <p>What was told is kept as it was told; whatever follows from it (who is of
 * full age, what is allowed, the accounts) is reckoned anew when it is asked
 * for after a change, since a law told late may change any day.
 */
public final class WardCourt {
    public static final int NONE = -6, UNKNOWN = -1, OUTSIDE = -2, STATE = -3, FULL = -4, NO = -5;
    public static final int LOST = -100000000;

    private static final int DAYS = 3600;
    private static final int YEAR_DAYS = 360;
    private static final int YEARS = 10;
    private static final int EARLIEST_BIRTH = -10800;

    private static final int MOST_LAWS = 8;
    private static final int MOST_WARDS = 6;
    private static final int MOST_LEAVES = 10;
    private static final int MOST_ITEMS = 60;
    private static final int MOST_LEASES = 10;

    private static final int MOST_COINS = 10000;
    private static final int MOST_LEASE_YEARS = 30;
    private static final int MOST_RENT = 1000;

    /** A lease, a leave or a day of death that was not told. */
    private static final int WITHOUT = -1;

    private static final int AGE = 0;
    private static final int IDLE = 1;
    private static final int RATE = 2;
    private static final int FREE = 3;
    private static final int TERM = 4;
    private static final int LAW_PARTS = 5;
    private static final int[] BEFORE_ANY_LAW = {21, 100, 5, 50, 3};

    private static final int NEEDS_LEAVE = 1;
    private static final int NEEDS_VOUCHER = 2;
    private static final int LEAVE_FOR_LESS = 4;

    /** In what a leave was for, leases stand this far above items. */
    private static final int LEASE_MARK = 100;

    private static final int BEGINS = 0;
    private static final int RECEIPTS = 1;
    private static final int PAYMENTS = 2;
    private static final int SHARES = 3;
    private static final int INTEREST = 4;
    private static final int ENDS = 5;
    private static final int ENTRIES = 6;

    /** Hundredths a year, counted day by day: 100 times 360. */
    private static final int INTEREST_PARTS = 36000;

    private final Laws laws = new Laws();
    private final Wards wards = new Wards();
    private final Leaves leaves = new Leaves();
    private final Items items = new Items();
    private final Leases leases = new Leases();
    private final Books books = new Books();

    /** Whether something was told since the books were reckoned. */
    private boolean stale;

    public WardCourt() {
    }

    // ---- 1 laws, wards, leaves

    public int law(int day, int age, int idle, int rate, int free, int term) {
        if (!isDay(day) || !within(age, 10, 30) || !within(idle, 0, MOST_COINS)
                || !within(rate, 0, 100) || !within(free, 0, MOST_COINS) || !within(term, 0, 10)) {
            return OUTSIDE;
        }
        if (laws.count >= MOST_LAWS) {
            return FULL;
        }
        laws.add(day, age, idle, rate, free, term);
        stale = true;
        return laws.count;
    }

    public int force(int day, int what) {
        if (!isDay(day) || !within(what, 0, LAW_PARTS - 1)) {
            return OUTSIDE;
        }
        return laws.inForce(day, what);
    }

    public int ward(int born) {
        if (!within(born, EARLIEST_BIRTH, DAYS - 1)) {
            return OUTSIDE;
        }
        if (wards.count >= MOST_WARDS) {
            return FULL;
        }
        wards.add(born);
        stale = true;
        return wards.count - 1;
    }

    public int dies(int ward, int day) {
        if (!wards.has(ward)) {
            return UNKNOWN;
        }
        if (day != WITHOUT && (!isDay(day) || day < wards.birthOf(ward))) {
            return OUTSIDE;
        }
        int ahead = wards.deathOf(ward);
        wards.setDeath(ward, day == WITHOUT ? NONE : day);
        stale = true;
        return ahead;
    }

    public int about(int ward, int what) {
        if (!wards.has(ward)) {
            return LOST + UNKNOWN;
        }
        settle();
        switch (what) {
            case 0:
                return wards.birthOf(ward);
            case 1:
                return wards.deathOf(ward);
            case 2:
                return wards.fullAgeOf(ward);
            case 3:
                return wards.givenOverOf(ward);
            case 4:
                return wards.shareOf(ward);
            default:
                return LOST + OUTSIDE;
        }
    }

    public int heads(int day) {
        if (!isDay(day)) {
            return OUTSIDE;
        }
        settle();
        return wards.headsOn(day);
    }

    public int leave(int upTo) {
        if (!isCoins(upTo)) {
            return OUTSIDE;
        }
        if (leaves.count >= MOST_LEAVES) {
            return FULL;
        }
        leaves.add(upTo);
        return leaves.count - 1;
    }

    public int ofLeave(int leave, int what) {
        if (!leaves.has(leave)) {
            return UNKNOWN;
        }
        switch (what) {
            case 0:
                return leaves.limitOf(leave);
            case 1:
                return leaves.useOf(leave);
            default:
                return OUTSIDE;
        }
    }

    // ---- 2 items, leases

    public int receive(int day, int coins, int lease) {
        if (lease != WITHOUT && !leases.has(lease)) {
            return UNKNOWN;
        }
        if (!isDay(day) || !isCoins(coins)) {
            return OUTSIDE;
        }
        if (items.count >= MOST_ITEMS) {
            return FULL;
        }
        items.add(day, coins, true, lease);
        stale = true;
        return items.count - 1;
    }

    public int pay(int day, int coins, int leave) {
        if (leave != WITHOUT && !leaves.has(leave)) {
            return UNKNOWN;
        }
        if (!isDay(day) || !isCoins(coins)) {
            return OUTSIDE;
        }
        if (items.count >= MOST_ITEMS) {
            return FULL;
        }
        if (leaves.wasUsed(leave)) {
            return NO;
        }
        int item = items.count;
        items.add(day, coins, false, leave);
        leaves.use(leave, item);
        stale = true;
        return item;
    }

    public int vouch(int item, boolean is) {
        if (!items.has(item)) {
            return UNKNOWN;
        }
        if (items.isReceipt(item)) {
            return STATE;
        }
        boolean had = items.setVoucher(item, is);
        stale = true;
        return had ? 1 : 0;
    }

    public int challenge(int item, boolean is) {
        if (!items.has(item)) {
            return UNKNOWN;
        }
        if (items.isReceipt(item)) {
            return STATE;
        }
        boolean was = items.setChallenge(item, is);
        stale = true;
        return was ? 1 : 0;
    }

    public int barred(int item) {
        if (!items.has(item)) {
            return UNKNOWN;
        }
        return items.barsOf(item, laws, leaves);
    }

    public int let(int day, int years, int rent, int leave) {
        if (leave != WITHOUT && !leaves.has(leave)) {
            return UNKNOWN;
        }
        if (!isDay(day) || !within(years, 1, MOST_LEASE_YEARS) || !within(rent, 1, MOST_RENT)) {
            return OUTSIDE;
        }
        if (leases.count >= MOST_LEASES) {
            return FULL;
        }
        if (leaves.wasUsed(leave)) {
            return NO;
        }
        int lease = leases.count;
        leases.add(day, years, rent, leave);
        leaves.use(leave, LEASE_MARK + lease);
        return lease;
    }

    public int isVoid(int lease) {
        if (!leases.has(lease)) {
            return UNKNOWN;
        }
        return leases.flawsOf(lease, laws, leaves);
    }

    public int arrears(int lease, int day) {
        if (!leases.has(lease)) {
            return LOST + UNKNOWN;
        }
        if (!isDay(day)) {
            return LOST + OUTSIDE;
        }
        boolean isDue = leases.flawsOf(lease, laws, leaves) == 0;
        int due = isDue ? leases.dueBy(lease, day) : 0;
        return due - items.hadOf(lease, day);
    }

    // ---- 3 accounts

    public int pot(int day) {
        if (!isDay(day)) {
            return LOST + OUTSIDE;
        }
        settle();
        return books.potAfter(day, wards, items);
    }

    public int account(int year, int what) {
        if (!isYear(year)) {
            return LOST + UNKNOWN;
        }
        if (!within(what, 0, ENTRIES - 1)) {
            return LOST + OUTSIDE;
        }
        settle();
        return books.entry(year, what);
    }

    public int pass(int year) {
        if (!isYear(year)) {
            return LOST + UNKNOWN;
        }
        settle();
        books.keep(year);
        return books.entry(year, ENDS);
    }

    public int passed(int year, int what) {
        if (!isYear(year)) {
            return LOST + UNKNOWN;
        }
        if (!within(what, 0, ENTRIES - 1)) {
            return LOST + OUTSIDE;
        }
        if (!books.wasKept(year)) {
            return LOST + STATE;
        }
        return books.keptEntry(year, what);
    }

    public int open() {
        settle();
        return books.changedYears();
    }

    public int told(int what) {
        switch (what) {
            case 0:
                return laws.count;
            case 1:
                return wards.count;
            case 2:
                return leaves.count;
            case 3:
                return items.count;
            case 4:
                return leases.count;
            case 5:
                return books.keptYears;
            default:
                return OUTSIDE;
        }
    }

    /** Brings all that follows from what was told up to what is told now. */
    private void settle() {
        if (!stale) {
            return;
        }
        wards.settleDays(laws);
        items.settleAllowed(laws, leaves);
        books.reckon(laws, wards, items);
        stale = false;
    }

    private static boolean within(int number, int least, int most) {
        return number >= least && number <= most;
    }

    private static boolean isDay(int day) {
        return within(day, 0, DAYS - 1);
    }

    private static boolean isYear(int year) {
        return within(year, 0, YEARS - 1);
    }

    private static boolean isCoins(int coins) {
        return within(coins, 1, MOST_COINS);
    }

    /** The least of the days that lies above one day and below another; that other where none does. */
    private static int nextOf(int[] days, int count, int after, int below) {
        int next = below;
        for (int i = 0; i < count && i < days.length; i++) {
            if (days[i] > after && days[i] < next) {
                next = days[i];
            }
        }
        return next;
    }

    /** The laws, as they were told. */
    private static final class Laws {
        private final int[] from = new int[MOST_LAWS];
        private final int[][] parts = new int[MOST_LAWS][LAW_PARTS];
        private int count;

        private void add(int day, int age, int idle, int rate, int free, int term) {
            if (count >= MOST_LAWS) {
                return;
            }
            from[count] = day;
            parts[count][AGE] = age;
            parts[count][IDLE] = idle;
            parts[count][RATE] = rate;
            parts[count][FREE] = free;
            parts[count][TERM] = term;
            count++;
        }

        private int inForce(int day, int part) {
            if (!within(part, 0, LAW_PARTS - 1)) {
                return 0;
            }
            int best = -1;
            for (int law = 0; law < count && law < MOST_LAWS; law++) {
                if (from[law] <= day && (best < 0 || from[law] >= from[best])) {
                    best = law;
                }
            }
            return best < 0 ? BEFORE_ANY_LAW[part] : parts[best][part];
        }

        /**
         * The first day of full age (NONE). It can only be day 0, the day of a
         * law, or one on which the years of some AGE have just gone: between
         * those, who is not of age stays so.
         */
        private int fullAgeDay(int born) {
            int first = sooner(born, 0, DAYS);
            first = sooner(born, born + BEFORE_ANY_LAW[AGE] * YEAR_DAYS, first);
            for (int law = 0; law < count && law < MOST_LAWS; law++) {
                first = sooner(born, from[law], first);
                first = sooner(born, born + parts[law][AGE] * YEAR_DAYS, first);
            }
            return first < DAYS ? first : NONE;
        }

        /** The day, if it lies ahead of the first one found and the years have gone on it; else the first one. */
        private int sooner(int born, int day, int first) {
            if (day < 0 || day >= first) {
                return first;
            }
            return day - born >= inForce(day, AGE) * YEAR_DAYS ? day : first;
        }

        private int turnAfter(int day, int end) {
            return nextOf(from, count, day, end);
        }
    }

    /** The wards, and what follows for each: its day of full age, its giving over and its share. */
    private static final class Wards {
        private final int[] born = new int[MOST_WARDS];
        private final int[] died = new int[MOST_WARDS];
        private final int[] fullAge = new int[MOST_WARDS];
        private final int[] givenOver = new int[MOST_WARDS];
        private final int[] share = new int[MOST_WARDS];
        private int count;

        private boolean has(int ward) {
            return ward >= 0 && ward < count && ward < MOST_WARDS;
        }

        private void add(int birth) {
            if (count >= MOST_WARDS) {
                return;
            }
            born[count] = birth;
            died[count] = NONE;
            fullAge[count] = NONE;
            givenOver[count] = NONE;
            count++;
        }

        private int birthOf(int ward) {
            return has(ward) ? born[ward] : NONE;
        }

        private int deathOf(int ward) {
            return has(ward) ? died[ward] : NONE;
        }

        private void setDeath(int ward, int day) {
            if (has(ward)) {
                died[ward] = day;
            }
        }

        private int fullAgeOf(int ward) {
            return has(ward) ? fullAge[ward] : NONE;
        }

        private int givenOverOf(int ward) {
            return has(ward) ? givenOver[ward] : NONE;
        }

        private int shareOf(int ward) {
            return has(ward) ? share[ward] : 0;
        }

        /** Who lives on its first day of full age is given over on it, whatever the pot holds. */
        private void settleDays(Laws laws) {
            for (int ward = 0; ward < count && ward < MOST_WARDS; ward++) {
                int day = laws.fullAgeDay(born[ward]);
                fullAge[ward] = day;
                givenOver[ward] = day != NONE && isAlive(ward, day) ? day : NONE;
                share[ward] = 0;
            }
        }

        private boolean isAlive(int ward, int day) {
            return has(ward) && born[ward] <= day && (died[ward] == NONE || died[ward] > day);
        }

        private int headsOn(int day) {
            int heads = 0;
            for (int ward = 0; ward < count && ward < MOST_WARDS; ward++) {
                boolean isGone = givenOver[ward] != NONE && givenOver[ward] < day;
                if (!isGone && isAlive(ward, day)) {
                    heads++;
                }
            }
            return heads;
        }

        /** Gives the wards of a day their shares of what the pot holds; answers the sum of them. */
        private int giveShares(int day, int held) {
            int heads = headsOn(day);
            int given = 0;
            for (int ward = 0; ward < count && ward < MOST_WARDS; ward++) {
                if (givenOver[ward] == day) {
                    int left = held - given;
                    share[ward] = left > 0 && heads > 0 ? left / heads : 0;
                    given += share[ward];
                    heads--;
                }
            }
            return given;
        }

        private int givenBetween(int from, int to) {
            int given = 0;
            for (int ward = 0; ward < count && ward < MOST_WARDS; ward++) {
                if (within(givenOver[ward], from, to)) {
                    given += share[ward];
                }
            }
            return given;
        }

        private int turnAfter(int day, int end) {
            return nextOf(givenOver, count, day, end);
        }
    }

    /** The leaves, and the one thing that each was for. */
    private static final class Leaves {
        private final int[] limit = new int[MOST_LEAVES];
        private final int[] used = new int[MOST_LEAVES];
        private int count;

        private boolean has(int leave) {
            return leave >= 0 && leave < count && leave < MOST_LEAVES;
        }

        private void add(int upTo) {
            if (count >= MOST_LEAVES) {
                return;
            }
            limit[count] = upTo;
            used[count] = NONE;
            count++;
        }

        private int limitOf(int leave) {
            return has(leave) ? limit[leave] : 0;
        }

        private int useOf(int leave) {
            return has(leave) ? used[leave] : NONE;
        }

        private boolean wasUsed(int leave) {
            return useOf(leave) != NONE;
        }

        private void use(int leave, int what) {
            if (has(leave)) {
                used[leave] = what;
            }
        }

        /** What bars so much under a leave, or without one where so much is free. */
        private int barsOn(int leave, int amount, int free) {
            if (leave == WITHOUT) {
                return amount > free ? NEEDS_LEAVE : 0;
            }
            return amount > limitOf(leave) ? LEAVE_FOR_LESS : 0;
        }
    }

    /** Receipts and payments in the order in which they were told. */
    private static final class Items {
        private final int[] day = new int[MOST_ITEMS];
        private final int[] coins = new int[MOST_ITEMS];
        private final boolean[] receipt = new boolean[MOST_ITEMS];
        /** The lease of a receipt, the leave of a payment, or WITHOUT. */
        private final int[] link = new int[MOST_ITEMS];
        private final boolean[] voucher = new boolean[MOST_ITEMS];
        private final boolean[] challenged = new boolean[MOST_ITEMS];
        private final boolean[] allowed = new boolean[MOST_ITEMS];
        private int count;

        private boolean has(int item) {
            return item >= 0 && item < count && item < MOST_ITEMS;
        }

        private void add(int itsDay, int itsCoins, boolean isReceipt, int itsLink) {
            if (count >= MOST_ITEMS) {
                return;
            }
            day[count] = itsDay;
            coins[count] = itsCoins;
            receipt[count] = isReceipt;
            link[count] = itsLink;
            count++;
        }

        private boolean isReceipt(int item) {
            return has(item) && receipt[item];
        }

        private boolean setVoucher(int item, boolean is) {
            if (!has(item)) {
                return false;
            }
            boolean had = voucher[item];
            voucher[item] = is;
            return had;
        }

        private boolean setChallenge(int item, boolean is) {
            if (!has(item)) {
                return false;
            }
            boolean was = challenged[item];
            challenged[item] = is;
            return was;
        }

        private int barsOf(int item, Laws laws, Leaves leaves) {
            if (!has(item) || receipt[item]) {
                return 0;
            }
            int free = laws.inForce(day[item], FREE);
            int bars = leaves.barsOn(link[item], coins[item], free);
            return challenged[item] && !voucher[item] ? bars + NEEDS_VOUCHER : bars;
        }

        private void settleAllowed(Laws laws, Leaves leaves) {
            for (int item = 0; item < count && item < MOST_ITEMS; item++) {
                allowed[item] = barsOf(item, laws, leaves) == 0;
            }
        }

        private int receivedBetween(int from, int to) {
            return sumBetween(true, from, to);
        }

        private int paidBetween(int from, int to) {
            return sumBetween(false, from, to);
        }

        private int sumBetween(boolean isReceipt, int from, int to) {
            int sum = 0;
            for (int item = 0; item < count && item < MOST_ITEMS; item++) {
                if (receipt[item] == isReceipt && allowed[item] && within(day[item], from, to)) {
                    sum += coins[item];
                }
            }
            return sum;
        }

        private int hadOf(int lease, int upTo) {
            int had = 0;
            for (int item = 0; item < count && item < MOST_ITEMS; item++) {
                if (receipt[item] && link[item] == lease && day[item] <= upTo) {
                    had += coins[item];
                }
            }
            return had;
        }

        private int turnAfter(int today, int end) {
            return nextOf(day, count, today, end);
        }
    }

    /** The leases, void ones too. */
    private static final class Leases {
        private final int[] from = new int[MOST_LEASES];
        private final int[] years = new int[MOST_LEASES];
        private final int[] rent = new int[MOST_LEASES];
        private final int[] leaveOf = new int[MOST_LEASES];
        private int count;

        private boolean has(int lease) {
            return lease >= 0 && lease < count && lease < MOST_LEASES;
        }

        private void add(int day, int itsYears, int itsRent, int itsLeave) {
            if (count >= MOST_LEASES) {
                return;
            }
            from[count] = day;
            years[count] = itsYears;
            rent[count] = itsRent;
            leaveOf[count] = itsLeave;
            count++;
        }

        private int flawsOf(int lease, Laws laws, Leaves leaves) {
            if (!has(lease)) {
                return 0;
            }
            int term = laws.inForce(from[lease], TERM);
            return leaves.barsOn(leaveOf[lease], years[lease], term);
        }

        private int dueBy(int lease, int day) {
            if (!has(lease) || day < from[lease]) {
                return 0;
            }
            int times = (day - from[lease]) / YEAR_DAYS + 1;
            return rent[lease] * Math.min(times, years[lease]);
        }
    }

    /** The accounts of all years as they are now, and those that were passed as they were then. */
    private static final class Books {
        private final int[][] now = new int[YEARS][ENTRIES];
        private final int[][] kept = new int[YEARS][ENTRIES];
        private int keptYears;

        private void reckon(Laws laws, Wards wards, Items items) {
            int held = 0;
            for (int year = 0; year < YEARS; year++) {
                held = reckonYear(year, held, laws, wards, items);
            }
        }

        /**
         * Reckons one year; answers the pot as it ends. Only on the days of
         * items, laws and givings over does the pot or the law turn; the days
         * from one turn to the next count alike for interest.
         */
        private int reckonYear(int year, int begins, Laws laws, Wards wards, Items items) {
            int first = year * YEAR_DAYS;
            int end = first + YEAR_DAYS;
            int held = begins;
            int shares = 0;
            long counted = 0;
            int day = first;
            for (int turn = 0; turn < YEAR_DAYS && day < end; turn++) {
                held += items.receivedBetween(day, day) - items.paidBetween(day, day);
                int given = wards.giveShares(day, held);
                held -= given;
                shares += given;
                int next = turnAfter(day, end, laws, wards, items);
                counted += countedADay(held, day, laws) * (next - day);
                day = next;
            }
            int interest = (int) (counted / INTEREST_PARTS);
            held += interest;
            if (isYear(year)) {
                now[year][BEGINS] = begins;
                now[year][RECEIPTS] = items.receivedBetween(first, end - 1);
                now[year][PAYMENTS] = items.paidBetween(first, end - 1);
                now[year][SHARES] = shares;
                now[year][INTEREST] = interest;
                now[year][ENDS] = held;
            }
            return held;
        }

        private static int turnAfter(int day, int end, Laws laws, Wards wards, Items items) {
            int next = laws.turnAfter(day, end);
            next = wards.turnAfter(day, next);
            return items.turnAfter(day, next);
        }

        /** What one day adds to the count for interest; long, as the sum of a year outgrows an int. */
        private static long countedADay(int held, int day, Laws laws) {
            int idle = held - laws.inForce(day, IDLE);
            return idle > 0 ? (long) idle * laws.inForce(day, RATE) : 0;
        }

        private int potAfter(int day, Wards wards, Items items) {
            int year = day / YEAR_DAYS;
            int first = year * YEAR_DAYS;
            int moved = items.receivedBetween(first, day) - items.paidBetween(first, day);
            int held = entry(year, BEGINS) + moved - wards.givenBetween(first, day);
            boolean isLastDay = day == first + YEAR_DAYS - 1;
            return isLastDay ? held + entry(year, INTEREST) : held;
        }

        private int entry(int year, int what) {
            return isYear(year) && within(what, 0, ENTRIES - 1) ? now[year][what] : 0;
        }

        private int keptEntry(int year, int what) {
            return isYear(year) && within(what, 0, ENTRIES - 1) ? kept[year][what] : 0;
        }

        private void keep(int year) {
            if (!isYear(year)) {
                return;
            }
            for (int what = 0; what < ENTRIES; what++) {
                kept[year][what] = now[year][what];
            }
            keptYears |= 1 << year;
        }

        private boolean wasKept(int year) {
            return isYear(year) && (keptYears >> year & 1) != 0;
        }

        private int changedYears() {
            int years = 0;
            for (int year = 0; year < YEARS; year++) {
                if (wasKept(year) && hasChanged(year)) {
                    years |= 1 << year;
                }
            }
            return years;
        }

        /** Only what the year itself did opens it: the pot as it begins and ends is others' doing too. */
        private boolean hasChanged(int year) {
            for (int what = RECEIPTS; what <= INTEREST; what++) {
                if (entry(year, what) != keptEntry(year, what)) {
                    return true;
                }
            }
            return false;
        }
    }
}
