import java.util.ArrayList;
import java.util.List;

/**
 * The document written out day by day, as plainly as its words go and without
 * any of the program's code, for ModelTest to hold the program against.
 */
final class PlainCourt {
    private static final int NONE = -6, UNKNOWN = -1, OUTSIDE = -2, STATE = -3, FULL = -4, NO = -5;
    private static final int LOST = -100000000;

    private record Law(int day, int[] parts) { }

    private static final class Ward {
        int born;
        int dies = NONE;
        int fullAge = NONE;
        int givenOver = NONE;
        int gets;
    }

    private static final class Leave {
        int upTo;
        int usedFor = NONE;
    }

    private static final class Item {
        boolean receipt;
        int day;
        int coins;
        int lease = -1;
        int leave = -1;
        boolean voucher;
        boolean challenged;
    }

    private record Lease(int day, int years, int rent, int leave) { }

    private final List<Law> laws = new ArrayList<>();
    private final List<Ward> wards = new ArrayList<>();
    private final List<Leave> leaves = new ArrayList<>();
    private final List<Item> items = new ArrayList<>();
    private final List<Lease> leases = new ArrayList<>();
    private final long[][] accounts = new long[10][6];
    private final long[][] kept = new long[10][];
    private final long[] potAfter = new long[3600];
    private final int[] headsOn = new int[3600];
    private boolean walked;

    /** Goes through all days from the first on. */
    private void walk() {
        if (walked) {
            return;
        }
        walked = true;
        for (Ward ward : wards) {
            ward.fullAge = NONE;
            ward.givenOver = NONE;
            ward.gets = 0;
        }
        long pot = 0;
        long counted = 0;
        for (int day = 0; day < 3600; day++) {
            long[] account = accounts[day / 360];
            if (day % 360 == 0) {
                counted = 0;
                account[0] = pot;
                account[1] = account[2] = account[3] = account[4] = account[5] = 0;
            }
            headsOn[day] = headsNow(day);
            for (int number = 0; number < items.size(); number++) {
                Item item = items.get(number);
                if (item.day != day) {
                    continue;
                }
                if (item.receipt) {
                    pot += item.coins;
                    account[1] += item.coins;
                } else if (barred(number) == 0) {
                    pot -= item.coins;
                    account[2] += item.coins;
                }
            }
            for (Ward ward : wards) {
                if (ward.fullAge == NONE && day - ward.born >= 360 * force(day, 0)) {
                    ward.fullAge = day;
                }
                if (ward.fullAge != NONE && isHead(ward, day)) {
                    long gets = pot > 0 ? pot / headsNow(day) : 0;
                    ward.givenOver = day;
                    ward.gets = (int) gets;
                    pot -= gets;
                    account[3] += gets;
                }
            }
            long idle = pot - force(day, 1);
            if (idle > 0) {
                counted += idle * force(day, 2);
            }
            if (day % 360 == 359) {
                account[4] = counted / 36000;
                pot += account[4];
                account[5] = pot;
            }
            potAfter[day] = pot;
        }
    }

    private boolean isHead(Ward ward, int day) {
        return ward.born <= day && (ward.dies == NONE || ward.dies > day) && ward.givenOver == NONE;
    }

    private int headsNow(int day) {
        int heads = 0;
        for (Ward ward : wards) {
            if (isHead(ward, day)) {
                heads++;
            }
        }
        return heads;
    }

    private static boolean out(int number, int least, int most) {
        return number < least || number > most;
    }

    int law(int day, int age, int idle, int rate, int free, int term) {
        if (out(day, 0, 3599) || out(age, 10, 30) || out(idle, 0, 10000) || out(rate, 0, 100)
                || out(free, 0, 10000) || out(term, 0, 10)) {
            return OUTSIDE;
        }
        if (laws.size() == 8) {
            return FULL;
        }
        laws.add(new Law(day, new int[] {age, idle, rate, free, term}));
        walked = false;
        return laws.size();
    }

    int force(int day, int what) {
        if (out(day, 0, 3599) || out(what, 0, 4)) {
            return OUTSIDE;
        }
        int best = -1;
        int says = new int[] {21, 100, 5, 50, 3}[what];
        for (Law law : laws) {
            if (law.day <= day && law.day >= best) {
                best = law.day;
                says = law.parts[what];
            }
        }
        return says;
    }

    int ward(int born) {
        if (out(born, -10800, 3599)) {
            return OUTSIDE;
        }
        if (wards.size() == 6) {
            return FULL;
        }
        Ward ward = new Ward();
        ward.born = born;
        wards.add(ward);
        walked = false;
        return wards.size() - 1;
    }

    int dies(int ward, int day) {
        if (out(ward, 0, wards.size() - 1)) {
            return UNKNOWN;
        }
        Ward it = wards.get(ward);
        if (out(day, -1, 3599) || day >= 0 && day < it.born) {
            return OUTSIDE;
        }
        int ahead = it.dies;
        it.dies = day < 0 ? NONE : day;
        walked = false;
        return ahead;
    }

    int about(int ward, int what) {
        if (out(ward, 0, wards.size() - 1)) {
            return LOST - 1;
        }
        if (out(what, 0, 4)) {
            return LOST - 2;
        }
        walk();
        Ward it = wards.get(ward);
        return new int[] {it.born, it.dies, it.fullAge, it.givenOver, it.gets}[what];
    }

    int heads(int day) {
        if (out(day, 0, 3599)) {
            return OUTSIDE;
        }
        walk();
        return headsOn[day];
    }

    int leave(int upTo) {
        if (out(upTo, 1, 10000)) {
            return OUTSIDE;
        }
        if (leaves.size() == 10) {
            return FULL;
        }
        Leave leave = new Leave();
        leave.upTo = upTo;
        leaves.add(leave);
        return leaves.size() - 1;
    }

    int ofLeave(int leave, int what) {
        if (out(leave, 0, leaves.size() - 1)) {
            return UNKNOWN;
        }
        if (out(what, 0, 1)) {
            return OUTSIDE;
        }
        return what == 0 ? leaves.get(leave).upTo : leaves.get(leave).usedFor;
    }

    int receive(int day, int coins, int lease) {
        if (out(lease, -1, leases.size() - 1)) {
            return UNKNOWN;
        }
        if (out(day, 0, 3599) || out(coins, 1, 10000)) {
            return OUTSIDE;
        }
        if (items.size() == 60) {
            return FULL;
        }
        Item item = new Item();
        item.receipt = true;
        item.day = day;
        item.coins = coins;
        item.lease = lease;
        items.add(item);
        walked = false;
        return items.size() - 1;
    }

    int pay(int day, int coins, int leave) {
        if (out(leave, -1, leaves.size() - 1)) {
            return UNKNOWN;
        }
        if (out(day, 0, 3599) || out(coins, 1, 10000)) {
            return OUTSIDE;
        }
        if (items.size() == 60) {
            return FULL;
        }
        if (leave >= 0 && leaves.get(leave).usedFor != NONE) {
            return NO;
        }
        Item item = new Item();
        item.day = day;
        item.coins = coins;
        item.leave = leave;
        items.add(item);
        if (leave >= 0) {
            leaves.get(leave).usedFor = items.size() - 1;
        }
        walked = false;
        return items.size() - 1;
    }

    int vouch(int item, boolean is) {
        if (out(item, 0, items.size() - 1)) {
            return UNKNOWN;
        }
        Item it = items.get(item);
        if (it.receipt) {
            return STATE;
        }
        int had = it.voucher ? 1 : 0;
        it.voucher = is;
        walked = false;
        return had;
    }

    int challenge(int item, boolean is) {
        if (out(item, 0, items.size() - 1)) {
            return UNKNOWN;
        }
        Item it = items.get(item);
        if (it.receipt) {
            return STATE;
        }
        int was = it.challenged ? 1 : 0;
        it.challenged = is;
        walked = false;
        return was;
    }

    int barred(int item) {
        if (out(item, 0, items.size() - 1)) {
            return UNKNOWN;
        }
        Item it = items.get(item);
        int bars = 0;
        if (!it.receipt && it.leave < 0 && it.coins > force(it.day, 3)) {
            bars |= 1;
        }
        if (!it.receipt && it.challenged && !it.voucher) {
            bars |= 2;
        }
        if (!it.receipt && it.leave >= 0 && leaves.get(it.leave).upTo < it.coins) {
            bars |= 4;
        }
        return bars;
    }

    int let(int day, int years, int rent, int leave) {
        if (out(leave, -1, leaves.size() - 1)) {
            return UNKNOWN;
        }
        if (out(day, 0, 3599) || out(years, 1, 30) || out(rent, 1, 1000)) {
            return OUTSIDE;
        }
        if (leases.size() == 10) {
            return FULL;
        }
        if (leave >= 0 && leaves.get(leave).usedFor != NONE) {
            return NO;
        }
        leases.add(new Lease(day, years, rent, leave));
        if (leave >= 0) {
            leaves.get(leave).usedFor = 100 + leases.size() - 1;
        }
        return leases.size() - 1;
    }

    int isVoid(int lease) {
        if (out(lease, 0, leases.size() - 1)) {
            return UNKNOWN;
        }
        Lease it = leases.get(lease);
        if (it.leave < 0) {
            return it.years > force(it.day, 4) ? 1 : 0;
        }
        return leaves.get(it.leave).upTo < it.years ? 4 : 0;
    }

    int arrears(int lease, int day) {
        if (out(lease, 0, leases.size() - 1)) {
            return LOST - 1;
        }
        if (out(day, 0, 3599)) {
            return LOST - 2;
        }
        Lease it = leases.get(lease);
        int arrears = 0;
        for (int year = 0; year < it.years; year++) {
            if (it.day + 360 * year <= day && isVoid(lease) == 0) {
                arrears += it.rent;
            }
        }
        for (Item item : items) {
            if (item.receipt && item.lease == lease && item.day <= day) {
                arrears -= item.coins;
            }
        }
        return arrears;
    }

    int pot(int day) {
        if (out(day, 0, 3599)) {
            return LOST - 2;
        }
        walk();
        return (int) potAfter[day];
    }

    int account(int year, int what) {
        if (out(year, 0, 9)) {
            return LOST - 1;
        }
        if (out(what, 0, 5)) {
            return LOST - 2;
        }
        walk();
        return (int) accounts[year][what];
    }

    int pass(int year) {
        if (out(year, 0, 9)) {
            return LOST - 1;
        }
        walk();
        kept[year] = accounts[year].clone();
        return (int) kept[year][5];
    }

    int passed(int year, int what) {
        if (out(year, 0, 9)) {
            return LOST - 1;
        }
        if (out(what, 0, 5)) {
            return LOST - 2;
        }
        return kept[year] == null ? LOST - 3 : (int) kept[year][what];
    }

    int open() {
        walk();
        int bits = 0;
        for (int year = 0; year < 10; year++) {
            for (int what = 1; what <= 4 && kept[year] != null; what++) {
                if (kept[year][what] != accounts[year][what]) {
                    bits |= 1 << year;
                }
            }
        }
        return bits;
    }

    int told(int what) {
        if (out(what, 0, 5)) {
            return OUTSIDE;
        }
        int bits = 0;
        for (int year = 0; year < 10; year++) {
            bits |= kept[year] == null ? 0 : 1 << year;
        }
        return new int[] {laws.size(), wards.size(), leaves.size(), items.size(), leases.size(), bits}[what];
    }
}
