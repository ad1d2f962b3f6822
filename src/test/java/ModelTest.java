import java.util.Random;

/**
 * Long runs of calls on the program and on PlainCourt at once; each answer of
 * the one must be the other's. The runs are the same each time: their seeds are
 * 1, 2, 3 .. (how many, and from which on, may be told as arguments).
 */
public final class ModelTest {
    private static final int CALLS = 512;
    private static final Checks CHECKS = new Checks("ModelTest");

    private final Random random;
    private final WardCourt court = new WardCourt();
    private final PlainCourt plain = new PlainCourt();
    /** Days that this run comes back to, so that things fall on one day. */
    private final int[] days = new int[6];
    /** One argument in so many is any number, right or wrong. */
    private final int wildness;

    private ModelTest(long seed) {
        random = new Random(seed);
        wildness = seed % 3 == 0 ? 12 : 60;
        for (int n = 0; n < days.length; n++) {
            days[n] = random.nextInt(3600);
        }
        days[0] = random.nextInt(10) * 360;
        days[1] = random.nextInt(10) * 360 + 359;
    }

    public static void main(String[] args) {
        int runs = args.length > 0 ? Integer.parseInt(args[0]) : 200;
        int from = args.length > 1 ? Integer.parseInt(args[1]) : 1;
        for (int seed = from; seed < from + runs; seed++) {
            CHECKS.part("run " + seed);
            ModelTest run = new ModelTest(seed);
            for (int n = 0; n < CALLS; n++) {
                run.call();
            }
        }
        CHECKS.end();
    }

    private int between(int least, int most) {
        if (random.nextInt(wildness) == 0) {
            return wild(least, most);
        }
        if (random.nextInt(8) == 0) {
            return random.nextBoolean() ? least : most;
        }
        return least + random.nextInt(most - least + 1);
    }

    private int wild(int least, int most) {
        switch (random.nextInt(6)) {
            case 0:
                return least - 1;
            case 1:
                return most + 1;
            case 2:
                return Integer.MIN_VALUE;
            case 3:
                return Integer.MAX_VALUE;
            case 4:
                return -1;
            default:
                return random.nextInt();
        }
    }

    private int day() {
        if (random.nextInt(wildness) == 0) {
            return wild(0, 3599);
        }
        if (random.nextInt(3) == 0) {
            return Math.min(3599, Math.max(0, days[random.nextInt(days.length)] + random.nextInt(3) - 1));
        }
        return between(0, 3599);
    }

    private int coins() {
        switch (random.nextInt(3)) {
            case 0:
                return between(1, 60);
            case 1:
                return between(1, 1000);
            default:
                return between(1, 10000);
        }
    }

    /** A number of something of which so many were told: mostly a right one. */
    private int number(int many) {
        return random.nextInt(wildness) == 0 || many == 0 ? wild(0, many - 1) : random.nextInt(many);
    }

    private int numberOrNot(int many) {
        return random.nextInt(2) == 0 ? -1 : number(many);
    }

    /** Such that the ward is of full age within the days, more often than not. */
    private int birth() {
        switch (random.nextInt(5)) {
            case 0:
                return between(-10800, 3599);
            case 1:
                return day() - 360 * between(10, 30);
            case 2:
                return day() - 360 * plain.force(days[0], 0);
            case 3:
                return -7560 + random.nextInt(3600);
            default:
                return between(-7560, 3599);
        }
    }

    private void call() {
        int kind = random.nextInt(100);
        if (kind < 40) {
            tell(kind);
        } else {
            ask(kind);
        }
    }

    private void tell(int kind) {
        if (kind < 3) {
            tellLaw();
        } else if (kind < 5) {
            int born = birth();
            due("ward(" + born + ")", court.ward(born), plain.ward(born));
        } else if (kind < 8) {
            int ward = number(plain.told(1));
            int day = random.nextInt(3) == 0 ? -1 : day();
            due("dies(" + ward + ", " + day + ")", court.dies(ward, day), plain.dies(ward, day));
        } else if (kind < 11) {
            int upTo = random.nextBoolean() ? between(1, 12) : coins();
            due("leave(" + upTo + ")", court.leave(upTo), plain.leave(upTo));
        } else if (kind < 19) {
            int day = day();
            int coins = coins();
            int lease = numberOrNot(plain.told(4));
            due("receive(" + day + ", " + coins + ", " + lease + ")",
                    court.receive(day, coins, lease), plain.receive(day, coins, lease));
        } else if (kind < 26) {
            int day = day();
            int coins = random.nextInt(4) == 0 && day >= 0 && day < 3600 ? plain.force(day, 3) : coins();
            int leave = numberOrNot(plain.told(2));
            due("pay(" + day + ", " + coins + ", " + leave + ")",
                    court.pay(day, coins, leave), plain.pay(day, coins, leave));
        } else if (kind < 32) {
            tellOfItem(kind < 29);
        } else if (kind < 35) {
            int day = day();
            int years = between(1, 30) / (1 + random.nextInt(4));
            int rent = between(1, 1000);
            int leave = numberOrNot(plain.told(2));
            due("let(" + day + ", " + years + ", " + rent + ", " + leave + ")",
                    court.let(day, years, rent, leave), plain.let(day, years, rent, leave));
        } else {
            int year = between(0, 9);
            due("pass(" + year + ")", court.pass(year), plain.pass(year));
        }
    }

    private void tellLaw() {
        int day = day();
        int age = random.nextBoolean() ? between(10, 30) : between(19, 23);
        int idle = random.nextBoolean() ? between(0, 10000) : between(0, 200);
        int rate = between(0, 100);
        int free = random.nextBoolean() ? between(0, 10000) : between(0, 100);
        int term = between(0, 10);
        due("law(" + day + ", " + age + ", " + idle + ", " + rate + ", " + free + ", " + term + ")",
                court.law(day, age, idle, rate, free, term), plain.law(day, age, idle, rate, free, term));
    }

    private void tellOfItem(boolean isVoucher) {
        int item = number(plain.told(3));
        boolean is = random.nextInt(3) != 0;
        if (isVoucher) {
            due("vouch(" + item + ", " + is + ")", court.vouch(item, is), plain.vouch(item, is));
        } else {
            due("challenge(" + item + ", " + is + ")", court.challenge(item, is), plain.challenge(item, is));
        }
    }

    private void ask(int kind) {
        int day = day();
        int year = between(0, 9);
        if (kind < 46) {
            int what = between(0, 4);
            due("force(" + day + ", " + what + ")", court.force(day, what), plain.force(day, what));
        } else if (kind < 54) {
            int ward = number(plain.told(1));
            int what = between(0, 4);
            due("about(" + ward + ", " + what + ")", court.about(ward, what), plain.about(ward, what));
        } else if (kind < 59) {
            due("heads(" + day + ")", court.heads(day), plain.heads(day));
        } else if (kind < 63) {
            int leave = number(plain.told(2));
            int what = between(0, 1);
            due("ofLeave(" + leave + ", " + what + ")", court.ofLeave(leave, what), plain.ofLeave(leave, what));
        } else if (kind < 68) {
            int item = number(plain.told(3));
            due("barred(" + item + ")", court.barred(item), plain.barred(item));
        } else if (kind < 71) {
            int lease = number(plain.told(4));
            due("isVoid(" + lease + ")", court.isVoid(lease), plain.isVoid(lease));
        } else if (kind < 76) {
            int lease = number(plain.told(4));
            due("arrears(" + lease + ", " + day + ")", court.arrears(lease, day), plain.arrears(lease, day));
        } else if (kind < 82) {
            due("pot(" + day + ")", court.pot(day), plain.pot(day));
        } else if (kind < 89) {
            int what = between(0, 5);
            due("account(" + year + ", " + what + ")", court.account(year, what), plain.account(year, what));
        } else if (kind < 93) {
            int what = between(0, 5);
            due("passed(" + year + ", " + what + ")", court.passed(year, what), plain.passed(year, what));
        } else if (kind < 98) {
            due("open()", court.open(), plain.open());
        } else {
            int what = between(0, 5);
            due("told(" + what + ")", court.told(what), plain.told(what));
        }
    }

    private static void due(String what, int got, int want) {
        CHECKS.due(what, got, want);
    }
}
