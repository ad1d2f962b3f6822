/**
 * Sentence by sentence of the document, the terms first: the edges that each
 * one names, on both sides. What is refused stands in RefusalTest, all refusals
 * of all calls together.
 */
public final class EdgeTest {
    private static final Checks CHECKS = new Checks("EdgeTest");
    private static final int NONE = -6;
    private static final int OUTSIDE = -2;
    private static final int LOST_STATE = -100000003;

    public static void main(String[] args) {
        daysGoFrom0To3599();
        aYearHas360Days();
        eightLaws();
        partsOfLaws();
        whatTheEdgesOfLawsDo();
        inForce();
        wardsAreBorn();
        wardsDie();
        fullAgeByAge();
        fullAgeByLaws();
        fullAgeOfTheDead();
        headsAreBorn();
        headsDoNotDie();
        headsNotGivenOverAhead();
        leavesForSoMuch();
        leavesForOneThingOnly();
        sixtyItems();
        aboveFree();
        challengedWithoutVoucher();
        leaveForLess();
        tenLeases();
        dueEach360Days();
        dueAsManyTimesAsYears();
        voidLeases();
        nothingIsDueOfVoidOnes();
        receiptsAsRent();
        potOfOneDay();
        potBelow0();
        sharesAreCut();
        sharesOfNothing();
        sharesOfThoseAhead();
        idleAboveTheLaw();
        countedByDays();
        interestAtTheYearsEnd();
        interestIsCut();
        greatestPot();
        accountsOfAYear();
        passedAsItWasThen();
        openBy1To4();
        tellsHowMany();
        CHECKS.end();
    }

    private static void due(String what, long got, long want) {
        CHECKS.due(what, got, want);
    }

    /** A court under one law from day 0 on, without interest. */
    private static WardCourt plainCourt() {
        WardCourt court = new WardCourt();
        court.law(0, 21, 0, 0, 50, 3);
        return court;
    }

    /** A court under one law from day 0 on: coins above IDLE double in a year. */
    private static WardCourt doublingCourt(int idle) {
        WardCourt court = new WardCourt();
        court.law(0, 21, idle, 100, 10000, 3);
        return court;
    }

    private static void account(WardCourt court, int year, int... want) {
        for (int what = 0; what < want.length; what++) {
            due("account(" + year + ", " + what + ")", court.account(year, what), want[what]);
        }
    }

    private static void passed(WardCourt court, int year, int... want) {
        for (int what = 0; what < want.length; what++) {
            due("passed(" + year + ", " + what + ")", court.passed(year, what), want[what]);
        }
    }

    private static void force(WardCourt court, int day, int... want) {
        for (int what = 0; what < want.length; what++) {
            due("force(" + day + ", " + what + ")", court.force(day, what), want[what]);
        }
    }

    private static void told(WardCourt court, int... want) {
        for (int what = 0; what < want.length; what++) {
            due("told(" + what + ")", court.told(what), want[what]);
        }
    }

    private static void daysGoFrom0To3599() {
        CHECKS.part("DAYS go from 0 to 3599");
        WardCourt court = new WardCourt();
        due("receive on the first", court.receive(0, 4, -1), 0);
        due("receive on the last", court.receive(3599, 8, -1), 1);
        due("pay on the first", court.pay(0, 1, -1), 2);
        due("pay on the last", court.pay(3599, 2, -1), 3);
        due("pot(0)", court.pot(0), 3);
        due("pot(1)", court.pot(1), 3);
        due("pot(3598)", court.pot(3598), 3);
        due("pot(3599)", court.pot(3599), 9);
        due("let on the first", court.let(0, 1, 5, -1), 0);
        due("let on the last", court.let(3599, 1, 6, -1), 1);
        due("arrears(0, 0)", court.arrears(0, 0), 5);
        due("arrears(1, 0)", court.arrears(1, 0), 0);
        due("arrears(1, 3598)", court.arrears(1, 3598), 0);
        due("arrears(1, 3599)", court.arrears(1, 3599), 6);
        due("law on the last", court.law(3599, 30, 1, 2, 3, 4), 1);
        force(court, 0, 21, 100, 5, 50, 3);
        force(court, 3598, 21, 100, 5, 50, 3);
        force(court, 3599, 30, 1, 2, 3, 4);
        due("law on the first", court.law(0, 20, 5, 6, 7, 8), 2);
        force(court, 0, 20, 5, 6, 7, 8);
        force(court, 3598, 20, 5, 6, 7, 8);
        force(court, 3599, 30, 1, 2, 3, 4);
    }

    private static void aYearHas360Days() {
        CHECKS.part("a YEAR has 360 of them: YEARS 0 to 9");
        WardCourt court = plainCourt();
        for (int year = 0; year < 10; year++) {
            court.receive(360 * year, 1 + year, -1);
            court.receive(360 * year + 359, 100 + 10 * year, -1);
            court.pay(360 * year, 10, -1);
            court.pay(360 * year + 359, 20 + year, -1);
        }
        int pot = 0;
        for (int year = 0; year < 10; year++) {
            int received = 101 + 11 * year;
            int paid = 30 + year;
            account(court, year, pot, received, paid, 0, 0, pot + received - paid);
            due("the pot of the first day", court.pot(360 * year), pot + 1 + year - 10);
            pot += received - paid;
            due("the pot of the last day", court.pot(360 * year + 359), pot);
        }
        for (int year = 0; year < 10; year++) {
            due("pass(" + year + ")", court.pass(year), court.account(year, 5));
            due("told(5)", court.told(5), (2 << year) - 1);
        }
    }

    private static void eightLaws() {
        CHECKS.part("LAWS, 8 at most, are each from a DAY on");
        WardCourt court = new WardCourt();
        for (int n = 1; n <= 8; n++) {
            due("law " + n, court.law(400 * n, 10 + n, 20 + n, 30 + n, 40 + n, n), n);
        }
        due("the ninth", court.law(400, 30, 0, 0, 0, 0), -4);
        force(court, 399, 21, 100, 5, 50, 3);
        for (int n = 1; n <= 8; n++) {
            force(court, 400 * n, 10 + n, 20 + n, 30 + n, 40 + n, n);
            force(court, 400 * n + 399, 10 + n, 20 + n, 30 + n, 40 + n, n);
        }
        due("told(0)", court.told(0), 8);
    }

    private static void partsOfLaws() {
        CHECKS.part("AGE 10 to 30, IDLE 0 to 10000, RATE 0 to 100, FREE 0 to 10000, TERM 0 to 10");
        int[] least = {10, 0, 0, 0, 0};
        int[] most = {30, 10000, 100, 10000, 10};
        int[] wrong = {Integer.MIN_VALUE, -65536, -1, 10001, 65546, Integer.MAX_VALUE};
        for (int part = 0; part < 5; part++) {
            WardCourt court = new WardCourt();
            due("the least of part " + part, lawWith(court, part, least[part]), 1);
            due("in force", court.force(0, part), least[part]);
            due("one less", lawWith(court, part, least[part] - 1), OUTSIDE);
            due("in force", court.force(0, part), least[part]);
            due("the most of part " + part, lawWith(court, part, most[part]), 2);
            due("in force", court.force(0, part), most[part]);
            due("one more", lawWith(court, part, most[part] + 1), OUTSIDE);
            for (int far : wrong) {
                due(far + " as part " + part, lawWith(court, part, far), OUTSIDE);
            }
            due("in force", court.force(0, part), most[part]);
            due("told(0)", court.told(0), 2);
        }
    }

    private static int lawWith(WardCourt court, int part, int number) {
        int[] parts = {20, 20, 20, 20, 5};
        parts[part] = number;
        return court.law(0, parts[0], parts[1], parts[2], parts[3], parts[4]);
    }

    private static void whatTheEdgesOfLawsDo() {
        CHECKS.part("what the least and the greatest AGE, FREE and TERM do");
        WardCourt young = new WardCourt();
        young.law(0, 10, 0, 0, 0, 0);
        young.ward(-3600);
        young.ward(-3599);
        young.ward(-1);
        young.ward(0);
        young.ward(3599);
        due("AGE 10, ten years on day 0", young.about(0, 2), 0);
        due("a day younger", young.about(1, 2), 1);
        due("ten years on the last day", young.about(2, 2), 3599);
        due("a day younger", young.about(3, 2), NONE);
        due("born on the last day", young.about(4, 2), NONE);
        young.pay(0, 1, -1);
        young.let(0, 1, 1, -1);
        due("FREE 0", young.barred(0), 1);
        due("TERM 0", young.isVoid(0), 1);

        WardCourt old = new WardCourt();
        old.law(0, 30, 0, 0, 10000, 10);
        old.ward(-10800);
        old.ward(-10799);
        old.ward(-7201);
        old.ward(-7200);
        due("AGE 30, the eldest", old.about(0, 2), 0);
        due("a day younger", old.about(1, 2), 1);
        due("thirty years on the last day", old.about(2, 2), 3599);
        due("a day younger", old.about(3, 2), NONE);
        old.pay(0, 10000, -1);
        old.let(0, 10, 1, -1);
        old.let(0, 11, 1, -1);
        due("FREE 10000", old.barred(0), 0);
        due("TERM 10", old.isVoid(0), 0);
        due("a year above it", old.isVoid(1), 1);
    }

    private static void inForce() {
        CHECKS.part("in force is that of the greatest DAY not above it, of one DAY the one told last");
        WardCourt court = new WardCourt();
        force(court, 0, 21, 100, 5, 50, 3);
        force(court, 3599, 21, 100, 5, 50, 3);
        court.law(1000, 11, 1, 1, 1, 1);
        court.law(500, 12, 2, 2, 2, 2);
        court.law(1500, 13, 3, 3, 3, 3);
        court.law(1000, 14, 4, 4, 4, 4);
        court.law(500, 15, 5, 5, 5, 5);
        force(court, 499, 21, 100, 5, 50, 3);
        force(court, 500, 15, 5, 5, 5, 5);
        force(court, 999, 15, 5, 5, 5, 5);
        force(court, 1000, 14, 4, 4, 4, 4);
        force(court, 1499, 14, 4, 4, 4, 4);
        force(court, 1500, 13, 3, 3, 3, 3);
        court.law(1000, 16, 6, 6, 6, 6);
        court.law(999, 17, 7, 7, 7, 7);
        court.law(1001, 18, 8, 8, 8, 8);
        force(court, 998, 15, 5, 5, 5, 5);
        force(court, 999, 17, 7, 7, 7, 7);
        force(court, 1000, 16, 6, 6, 6, 6);
        force(court, 1001, 18, 8, 8, 8, 8);
        force(court, 1499, 18, 8, 8, 8, 8);
        WardCourt oneDay = new WardCourt();
        for (int n = 1; n <= 8; n++) {
            oneDay.law(77, 10 + n, n, n, n, n);
            force(oneDay, 76, 21, 100, 5, 50, 3);
            force(oneDay, 77, 10 + n, n, n, n, n);
        }
    }

    private static void wardsAreBorn() {
        CHECKS.part("WARDS, 6 at most, numbered from 0 on, are born on a DAY (-10800 to 3599)");
        int[] born = {-10800, 3599, -1, 0, 3598, -10799};
        WardCourt court = new WardCourt();
        for (int n = 0; n < 6; n++) {
            due("too early", court.ward(-10801), OUTSIDE);
            due("too late", court.ward(3600), OUTSIDE);
            due("ward(" + born[n] + ")", court.ward(born[n]), n);
            due("told(1)", court.told(1), n + 1);
        }
        due("the seventh", court.ward(0), -4);
        for (int n = 0; n < 6; n++) {
            due("was born", court.about(n, 0), born[n]);
            due("does not die", court.about(n, 1), NONE);
        }
        due("the seventh is unknown", court.about(6, 0), -100000001);
        due("told(1)", court.told(1), 6);
        due("two of full age on the first day, two born later", court.heads(0), 4);
        due("two gone", court.heads(1), 2);
        due("heads(3597)", court.heads(3597), 2);
        due("heads(3598)", court.heads(3598), 3);
        due("heads(3599)", court.heads(3599), 4);
    }

    private static void wardsDie() {
        CHECKS.part("and may die on one; the DAY ahead (NONE)");
        WardCourt court = new WardCourt();
        court.ward(-10800);
        court.ward(0);
        court.ward(3599);
        due("never told", court.dies(0, -1), NONE);
        due("never told, but for that", court.dies(0, 0), NONE);
        due("on the first day", court.dies(0, 3599), 0);
        due("on the last day", court.dies(0, -1), 3599);
        due("it does not", court.dies(0, -1), NONE);
        due("the same day", court.dies(0, 7), NONE);
        due("told again", court.dies(0, 7), 7);
        due("one of the others", court.about(1, 1), NONE);
        due("born on day 0, ahead of it", court.dies(1, -2), OUTSIDE);
        due("born on day 0, on it", court.dies(1, 0), NONE);
        due("born on the last day, ahead of it", court.dies(2, 3598), OUTSIDE);
        due("born on the last day, after it", court.dies(2, 3600), OUTSIDE);
        due("born on the last day, on it", court.dies(2, 3599), NONE);
        due("it does not", court.dies(2, -1), 3599);
        due("about(0, 1)", court.about(0, 1), 7);
        due("about(1, 1)", court.about(1, 1), 0);
        due("about(2, 1)", court.about(2, 1), NONE);
    }

    private static void fullAgeByAge() {
        CHECKS.part("of FULL AGE from the first DAY on (0 to 3599) as many DAYS have gone as AGE has YEARS, or more");
        WardCourt court = new WardCourt();
        court.ward(-7562);
        court.ward(-7561);
        court.ward(-7560);
        court.ward(-7559);
        court.ward(-3961);
        court.ward(-3960);
        due("two days ahead of day 0", court.about(0, 2), 0);
        due("a day ahead of it", court.about(1, 2), 0);
        due("on day 0", court.about(2, 2), 0);
        due("on day 1", court.about(3, 2), 1);
        due("on the last day", court.about(4, 2), 3599);
        due("a day after it", court.about(5, 2), NONE);
        due("given over on the last day", court.about(4, 3), 3599);
        due("not given over", court.about(5, 3), NONE);
    }

    private static void fullAgeByLaws() {
        CHECKS.part("of FULL AGE by the AGE in force then");
        WardCourt court = new WardCourt();
        court.ward(-7460);
        court.ward(-3500);
        court.ward(-3499);
        due("by AGE 21", court.about(0, 2), 100);
        court.law(101, 22, 0, 0, 0, 0);
        due("AGE raised a day after", court.about(0, 2), 100);
        court.law(100, 22, 0, 0, 0, 0);
        due("AGE raised on that day", court.about(0, 2), 460);
        court.law(460, 23, 0, 0, 0, 0);
        due("and raised on the next such day", court.about(0, 2), 820);
        court.law(600, 22, 0, 0, 0, 0);
        due("lowered between", court.about(0, 2), 600);
        court.law(99, 10, 0, 0, 0, 0);
        due("lowered for one day", court.about(0, 2), 99);
        due("a day short of ten years on it", court.about(1, 2), NONE);
        court.law(100, 10, 0, 0, 0, 0);
        due("lowered for one day more", court.about(1, 2), 100);
        due("a day short of ten years on both", court.about(2, 2), NONE);
        due("raised on the day after, of no matter now", court.about(0, 2), 99);
        court.law(0, 30, 0, 0, 0, 0);
        due("raised ahead of it", court.about(0, 2), 99);

        WardCourt late = new WardCourt();
        late.ward(-1);
        late.ward(0);
        late.law(3599, 10, 0, 0, 0, 0);
        due("lowered on the last day, ten years on it", late.about(0, 2), 3599);
        due("a day short", late.about(1, 2), NONE);
    }

    private static void fullAgeOfTheDead() {
        CHECKS.part("of FULL AGE, whether it lives or not");
        WardCourt court = plainCourt();
        court.receive(0, 90, -1);
        court.ward(-7460);
        int[] dies = {0, 99, 100, 101, 3599};
        int[] givenOver = {NONE, NONE, NONE, 100, 100};
        for (int n = 0; n < dies.length; n++) {
            court.dies(0, dies[n]);
            due("is of full age", court.about(0, 2), 100);
            due("dies on " + dies[n] + ", given over", court.about(0, 3), givenOver[n]);
            due("gets", court.about(0, 4), givenOver[n] == NONE ? 0 : 90);
            due("what is left", court.pot(3599), givenOver[n] == NONE ? 90 : 0);
        }
    }

    private static void headsAreBorn() {
        CHECKS.part("It is a HEAD on a DAY, if it is born by then");
        WardCourt court = new WardCourt();
        court.ward(100);
        due("the day ahead", court.heads(99), 0);
        due("on that day", court.heads(100), 1);
        due("the day after", court.heads(101), 1);
        due("on the last", court.heads(3599), 1);
        court.ward(3599);
        due("a day ahead of the last", court.heads(3598), 1);
        due("born on the last", court.heads(3599), 2);
        court.ward(-10800 + 3599);
        court.ward(0);
        due("on the first", court.heads(0), 2);
    }

    private static void headsDoNotDie() {
        CHECKS.part("does not die by then");
        WardCourt court = new WardCourt();
        court.ward(100);
        court.dies(0, 200);
        due("the day ahead", court.heads(199), 1);
        due("on that day", court.heads(200), 0);
        due("the day after", court.heads(201), 0);
        court.dies(0, 100);
        due("on its birth", court.heads(100), 0);
        due("the day ahead of both", court.heads(99), 0);
        court.dies(0, 101);
        due("a day after its birth", court.heads(100), 1);
        court.dies(0, 3599);
        due("a day ahead of the last", court.heads(3598), 1);
        due("on the last", court.heads(3599), 0);
        court.ward(-5);
        court.dies(1, 0);
        due("on the first", court.heads(0), 0);
        court.dies(1, 1);
        due("a day after the first", court.heads(0), 1);
        due("and gone", court.heads(1), 0);
    }

    private static void headsNotGivenOverAhead() {
        CHECKS.part("and was not given over ahead; as its ITEMS come");
        WardCourt court = new WardCourt();
        court.ward(-7460);
        court.ward(-7460);
        court.ward(-7459);
        due("the day ahead", court.heads(99), 3);
        due("on that day, none is given over yet", court.heads(100), 3);
        due("the day after, one of age on it", court.heads(101), 1);
        due("two days after", court.heads(102), 0);
        court.dies(1, 101);
        due("who is given over and dies", court.heads(101), 1);
        court.ward(-7560);
        due("of age on day 0", court.heads(0), 4);
        due("gone on day 1", court.heads(1), 3);
        court.ward(-3961);
        due("of age on the last", court.heads(3599), 1);
    }

    private static void leavesForSoMuch() {
        CHECKS.part("LEAVES, 10 at most, are each for so much (1 to 10000)");
        WardCourt court = new WardCourt();
        for (int n = 0; n < 10; n++) {
            due("leave(0)", court.leave(0), OUTSIDE);
            due("leave(10001)", court.leave(10001), OUTSIDE);
            due("leave " + n, court.leave(n == 0 ? 10000 : n), n);
            due("told(2)", court.told(2), n + 1);
        }
        due("the eleventh", court.leave(5), -4);
        due("told(2)", court.told(2), 10);
        for (int n = 0; n < 10; n++) {
            due("for how much", court.ofLeave(n, 0), n == 0 ? 10000 : n);
            due("what for", court.ofLeave(n, 1), NONE);
        }
        due("the eleventh is unknown", court.ofLeave(10, 0), -1);
        court.pay(0, 10000, 0);
        court.pay(0, 1, 1);
        court.let(0, 9, 1, 9);
        due("the greatest", court.barred(0), 0);
        due("the least", court.barred(1), 0);
        due("the last", court.isVoid(0), 0);
    }

    private static void leavesForOneThingOnly() {
        CHECKS.part("one is for one thing only");
        WardCourt court = new WardCourt();
        for (int n = 0; n < 6; n++) {
            court.leave(3);
        }
        due("for an item, the first of all", court.pay(0, 3, 0), 0);
        due("what for", court.ofLeave(0, 1), 0);
        due("payment after payment", court.pay(0, 3, 0), -5);
        due("lease after payment", court.let(0, 3, 1, 0), -5);
        due("for a lease, the first of all", court.let(0, 3, 1, 1), 0);
        due("what for", court.ofLeave(1, 1), 100);
        due("payment after lease", court.pay(0, 3, 1), -5);
        due("lease after lease", court.let(0, 3, 1, 1), -5);
        due("a payment that it is too little for", court.pay(0, 4, 2), 1);
        due("uses it too", court.pay(0, 3, 2), -5);
        due("a lease that it is too little for", court.let(0, 4, 1, 3), 1);
        due("uses it too", court.let(0, 3, 1, 3), -5);
        due("a payment that needs none", court.pay(0, 1, 4), 2);
        due("uses it too", court.pay(0, 1, 4), -5);
        due("what for", court.ofLeave(2, 1), 1);
        due("what for", court.ofLeave(3, 1), 101);
        due("what for", court.ofLeave(4, 1), 2);
        due("refused for its day", court.pay(3600, 1, 5), OUTSIDE);
        due("refused for its coins", court.pay(0, 10001, 5), OUTSIDE);
        due("refused for its years", court.let(0, 31, 1, 5), OUTSIDE);
        due("still for nothing", court.ofLeave(5, 1), NONE);
        due("no leave is for many things", court.pay(0, 1, -1), 3);
        due("no leave again", court.pay(0, 1, -1), 4);
        due("nor for leases", court.let(0, 1, 1, -1), 2);
        due("and used", court.let(0, 1, 1, 5), 3);
        due("what for", court.ofLeave(5, 1), 103);
        for (int n = 4; n < 9; n++) {
            court.let(0, 1, 1, -1);
        }
        for (int n = 5; n < 59; n++) {
            court.receive(0, 1, -1);
        }
        court.leave(1);
        court.leave(1);
        court.pay(0, 1, 6);
        court.let(0, 1, 1, 7);
        due("for the last item", court.ofLeave(6, 1), 59);
        due("for the last lease", court.ofLeave(7, 1), 109);
    }

    private static void sixtyItems() {
        CHECKS.part("ITEMS, 60 at most, numbered from 0 on as they were told, with coins (1 to 10000)");
        WardCourt court = plainCourt();
        due("coins 0", court.receive(0, 0, -1), OUTSIDE);
        due("coins 10001", court.receive(0, 10001, -1), OUTSIDE);
        due("a payment of 0", court.pay(0, 0, -1), OUTSIDE);
        due("a payment of 10001", court.pay(0, 10001, -1), OUTSIDE);
        due("the greatest receipt", court.receive(3599, 10000, -1), 0);
        due("the least receipt, of a day ahead", court.receive(0, 1, -1), 1);
        due("the greatest payment", court.pay(1, 10000, -1), 2);
        due("the least payment", court.pay(1, 1, -1), 3);
        due("pot(0)", court.pot(0), 1);
        due("pot(1)", court.pot(1), 0);
        due("pot(3599)", court.pot(3599), 10000);
        for (int n = 4; n < 58; n++) {
            due("item " + n, n % 2 == 0 ? court.receive(2, 1, -1) : court.pay(2, 1, -1), n);
        }
        due("the last but one", court.receive(3, 7, -1), 58);
        due("the last", court.pay(3, 5, -1), 59);
        due("one more receipt", court.receive(3, 1, -1), -4);
        due("one more payment", court.pay(3, 1, -1), -4);
        due("told(3)", court.told(3), 60);
        due("the last is known", court.barred(59), 0);
        due("one more is not", court.barred(60), -1);
        due("pot(2)", court.pot(2), 0);
        due("pot(3)", court.pot(3), 2);
        due("the last is challenged", court.challenge(59, true), 0);
        due("not allowed", court.barred(59), 2);
        due("pot(3)", court.pot(3), 7);
        due("the last is vouched for", court.vouch(59, true), 0);
        due("pot(3)", court.pot(3), 2);
        due("one more to challenge", court.challenge(60, true), -1);
        due("one more to vouch for", court.vouch(60, true), -1);
    }

    private static void aboveFree() {
        CHECKS.part("NOT ALLOWED for: 1 it is above FREE in force on its DAY and has no LEAVE");
        WardCourt court = new WardCourt();
        court.leave(10000);
        court.pay(100, 49, -1);
        court.pay(100, 50, -1);
        court.pay(100, 51, -1);
        court.pay(100, 51, 0);
        due("below", court.barred(0), 0);
        due("just so much", court.barred(1), 0);
        due("one above", court.barred(2), 1);
        due("one above, with a leave", court.barred(3), 0);
        due("those allowed went out", court.pot(100), -150);
        court.law(101, 21, 100, 5, 0, 3);
        due("by a law from the day after on", court.barred(0), 0);
        court.law(99, 21, 100, 5, 49, 3);
        due("by a law from the day ahead on", court.barred(1), 1);
        due("just so much", court.barred(0), 0);
        due("pot(100)", court.pot(100), -100);
        court.law(100, 21, 100, 5, 51, 3);
        due("by a law from that day on", court.barred(2), 0);
        due("pot(100)", court.pot(100), -201);
        court.law(100, 21, 100, 5, 48, 3);
        due("by the one told last", court.barred(0), 1);
        due("the leave holds", court.barred(3), 0);
        due("pot(100)", court.pot(100), -51);
    }

    private static void challengedWithoutVoucher() {
        CHECKS.part("2 it is challenged, and there is no voucher");
        WardCourt court = new WardCourt();
        court.pay(0, 50, -1);
        court.pay(0, 50, -1);
        due("neither", court.barred(0), 0);
        due("vouch", court.vouch(0, true), 0);
        due("a voucher alone", court.barred(0), 0);
        due("challenge", court.challenge(0, true), 0);
        due("both", court.barred(0), 0);
        due("vouch", court.vouch(0, false), 1);
        due("challenged alone", court.barred(0), 2);
        due("the other is not", court.barred(1), 0);
        due("pot(0)", court.pot(0), -50);
        due("vouch", court.vouch(0, false), 0);
        due("vouch", court.vouch(0, true), 0);
        due("both again", court.barred(0), 0);
        due("pot(0)", court.pot(0), -100);
        due("challenge", court.challenge(0, false), 1);
        due("challenge", court.challenge(0, false), 0);
        due("the voucher is kept", court.vouch(0, false), 1);
        due("neither", court.barred(0), 0);
        due("pot(0)", court.pot(0), -100);
    }

    private static void leaveForLess() {
        CHECKS.part("4 its LEAVE is for less; together");
        WardCourt court = new WardCourt();
        court.leave(99);
        court.leave(100);
        court.leave(101);
        court.leave(9999);
        court.pay(0, 100, 0);
        court.pay(0, 100, 1);
        court.pay(0, 100, 2);
        court.pay(0, 10000, 3);
        court.pay(0, 51, -1);
        due("one less", court.barred(0), 4);
        due("just so much", court.barred(1), 0);
        due("one more", court.barred(2), 0);
        due("one less than the greatest", court.barred(3), 4);
        due("pot(0)", court.pot(0), -200);
        int[] challenged = {6, 2, 2, 6, 3};
        int[] vouchedFor = {4, 0, 0, 4, 1};
        for (int item = 0; item < 5; item++) {
            court.challenge(item, true);
            due("challenged too", court.barred(item), challenged[item]);
        }
        due("pot(0)", court.pot(0), 0);
        for (int item = 0; item < 5; item++) {
            court.vouch(item, true);
            due("vouched for", court.barred(item), vouchedFor[item]);
        }
        due("pot(0)", court.pot(0), -200);
        court.receive(0, 10000, -1);
        due("a receipt is allowed, above FREE too", court.barred(5), 0);
    }

    private static void tenLeases() {
        CHECKS.part("LEASES, 10 at most, numbered from 0 on, for years (1 to 30) at a rent (1 to 1000)");
        WardCourt court = new WardCourt();
        court.law(0, 21, 0, 0, 0, 10);
        court.leave(30);
        due("years 0", court.let(0, 0, 1, -1), OUTSIDE);
        due("years 31", court.let(0, 31, 1, 0), OUTSIDE);
        due("rent 0", court.let(0, 1, 0, -1), OUTSIDE);
        due("rent 1001", court.let(0, 1, 1001, -1), OUTSIDE);
        due("the greatest", court.let(0, 30, 1000, 0), 0);
        due("the least", court.let(0, 1, 1, -1), 1);
        due("not void", court.isVoid(0), 0);
        due("not void", court.isVoid(1), 0);
        due("due of the greatest", court.arrears(0, 3599), 10000);
        due("due of the least", court.arrears(1, 3599), 1);
        for (int n = 2; n < 10; n++) {
            due("lease " + n, court.let(0, 1, 10 * n, -1), n);
        }
        due("the eleventh", court.let(0, 1, 1, -1), -4);
        due("the last is known", court.isVoid(9), 0);
        due("one more is not", court.isVoid(10), -1);
        due("due of the last", court.arrears(9, 0), 90);
        due("due of one more", court.arrears(10, 0), -100000001);
        due("rent of the last", court.receive(0, 40, 9), 0);
        due("rent of one more", court.receive(0, 40, 10), -1);
        due("due of the last", court.arrears(9, 0), 50);
        due("told(4)", court.told(4), 10);
    }

    private static void dueEach360Days() {
        CHECKS.part("due on that DAY and each 360 DAYS later; up to a DAY (with it)");
        WardCourt court = new WardCourt();
        court.law(0, 21, 0, 0, 0, 10);
        court.let(5, 10, 7, -1);
        due("the day ahead", court.arrears(0, 4), 0);
        for (int times = 1; times <= 9; times++) {
            due("on day " + times, court.arrears(0, 360 * times - 355), 7 * times);
            due("the day ahead of the next", court.arrears(0, 360 * times + 4), 7 * times);
        }
        due("the tenth", court.arrears(0, 3245), 70);
        due("on the last day", court.arrears(0, 3599), 70);
        court.let(3239, 10, 7, -1);
        due("again on the last day, the day ahead", court.arrears(1, 3598), 7);
        due("again on the last day", court.arrears(1, 3599), 14);
        court.let(3240, 10, 7, -1);
        due("again a day after the last", court.arrears(2, 3599), 7);
    }

    private static void dueAsManyTimesAsYears() {
        CHECKS.part("as many times as years");
        WardCourt court = new WardCourt();
        court.law(0, 21, 0, 0, 0, 10);
        court.let(0, 1, 7, -1);
        court.let(0, 2, 7, -1);
        court.let(0, 9, 7, -1);
        court.let(0, 10, 7, -1);
        court.leave(11);
        court.let(0, 11, 7, 0);
        due("once", court.arrears(0, 0), 7);
        due("once", court.arrears(0, 359), 7);
        due("and no more", court.arrears(0, 360), 7);
        due("once", court.arrears(1, 359), 7);
        due("twice", court.arrears(1, 360), 14);
        due("and no more", court.arrears(1, 720), 14);
        due("nine times", court.arrears(2, 3239), 63);
        due("and no more", court.arrears(2, 3240), 63);
        due("nine times", court.arrears(3, 3239), 63);
        due("ten times", court.arrears(3, 3240), 70);
        due("eleven, as far as days go", court.arrears(4, 3599), 70);
    }

    private static void voidLeases() {
        CHECKS.part("VOID for: 1 years above TERM in force on its DAY, and it has no LEAVE; 4 its LEAVE is for less");
        WardCourt court = new WardCourt();
        for (int upTo = 3; upTo <= 6; upTo++) {
            court.leave(upTo);
        }
        court.let(100, 2, 1, -1);
        court.let(100, 3, 1, -1);
        court.let(100, 4, 1, -1);
        court.let(100, 5, 1, 0);
        court.let(100, 5, 1, 1);
        court.let(100, 5, 1, 2);
        court.let(100, 5, 1, 3);
        int[] flaws = {0, 0, 1, 4, 4, 0, 0};
        for (int lease = 0; lease < flaws.length; lease++) {
            due("lease " + lease, court.isVoid(lease), flaws[lease]);
        }
        court.law(101, 21, 0, 0, 0, 10);
        due("by a law from the day after on", court.isVoid(2), 1);
        court.law(99, 21, 0, 0, 0, 2);
        due("just so many years", court.isVoid(0), 0);
        due("by a law from the day ahead on", court.isVoid(1), 1);
        court.law(100, 21, 0, 0, 0, 4);
        due("by a law from that day on", court.isVoid(2), 0);
        due("its leave is for less still", court.isVoid(4), 4);
        court.law(100, 21, 0, 0, 0, 5);
        due("its leave is for less, though it needs none", court.isVoid(4), 4);
        court.law(100, 21, 0, 0, 0, 0);
        due("by the one told last", court.isVoid(0), 1);
        due("its leave is for as much", court.isVoid(5), 0);
    }

    private static void nothingIsDueOfVoidOnes() {
        CHECKS.part("Nothing is due of a VOID one");
        WardCourt court = new WardCourt();
        court.leave(1);
        court.let(0, 4, 10, -1);
        court.let(0, 2, 10, 0);
        due("above TERM", court.arrears(0, 0), 0);
        due("above TERM", court.arrears(0, 3599), 0);
        due("its leave is for less", court.arrears(1, 0), 0);
        due("its leave is for less", court.arrears(1, 3599), 0);
        court.receive(10, 3, 0);
        due("nothing is had yet", court.arrears(0, 9), 0);
        due("what was had of it", court.arrears(0, 10), -3);
        court.law(0, 21, 0, 0, 0, 4);
        due("void no more", court.arrears(0, 3599), 37);
        court.law(0, 21, 0, 0, 0, 3);
        due("void again", court.arrears(0, 3599), -3);
    }

    private static void receiptsAsRent() {
        CHECKS.part("A RECEIPT may be rent of a LEASE: what was had of it by then");
        WardCourt court = plainCourt();
        court.leave(50);
        court.let(100, 3, 40, -1);
        court.let(100, 3, 60, -1);
        court.pay(100, 11, 0);
        court.pay(100, 12, -1);
        court.receive(100, 13, -1);
        due("payments and other receipts are no rent", court.arrears(0, 3599), 120);
        court.receive(200, 15, 0);
        due("the day ahead", court.arrears(0, 199), 40);
        due("on that day", court.arrears(0, 200), 25);
        due("the other", court.arrears(1, 3599), 180);
        court.receive(99, 50, 1);
        due("ahead of the lease", court.arrears(1, 99), -50);
        due("ahead of that", court.arrears(1, 98), 0);
        due("on its first day", court.arrears(1, 100), 10);
        court.receive(3599, 10000, 1);
        due("the day ahead of the last", court.arrears(1, 3598), 130);
        due("on the last day", court.arrears(1, 3599), -9870);
        due("rent comes into the pot", court.pot(3599), 10055);
    }

    private static void potOfOneDay() {
        CHECKS.part("THE POT is 0 at first; each DAY its ITEMS, then who is GIVEN OVER, then IDLE");
        WardCourt court = doublingCourt(0);
        due("at first", court.pot(0), 0);
        court.ward(-7560 + 180);
        due("nothing to give", court.about(0, 4), 0);
        court.receive(180, 100, -1);
        due("what comes on the day is given over", court.about(0, 4), 100);
        due("and lies no more", court.pot(3599), 0);
        court.pay(180, 40, -1);
        due("what goes out on the day is not", court.about(0, 4), 60);
        court.receive(181, 7, -1);
        due("what comes the day after is not", court.about(0, 4), 60);
        due("it stays", court.pot(181), 7);
        court.receive(179, 2, -1);
        due("what came the day ahead is", court.about(0, 4), 62);
        due("the pot of that day", court.pot(179), 2);
        due("the pot of the day", court.pot(180), 0);
    }

    private static void potBelow0() {
        CHECKS.part("PAYMENTS that are ALLOWED go out (also below 0)");
        WardCourt court = doublingCourt(0);
        court.pay(0, 1, -1);
        due("just below 0", court.pot(0), -1);
        due("nothing lies idle", court.pot(3599), -1);
        court.receive(1, 1, -1);
        due("0 again", court.pot(1), 0);
        due("nothing lies idle", court.pot(3599), 0);
        WardCourt deep = doublingCourt(0);
        for (int n = 0; n < 60; n++) {
            deep.pay(3599, 10000, -1);
        }
        due("a day ahead", deep.pot(3598), 0);
        due("as far below as it goes", deep.pot(3599), -600000);
        account(deep, 9, 0, 0, 600000, 0, 0, -600000);
    }

    private static void sharesAreCut() {
        CHECKS.part("by numbers: each gets THE POT by all HEADS (itself too, not those given over ahead of it), cut");
        WardCourt court = plainCourt();
        for (int n = 0; n < 6; n++) {
            court.ward(-7560);
        }
        court.receive(0, 10, -1);
        int[] shares = {1, 1, 2, 2, 2, 2};
        for (int n = 0; n < 6; n++) {
            due("of 10, ward " + n, court.about(n, 4), shares[n]);
            due("on the first day", court.about(n, 3), 0);
        }
        due("nothing is left", court.pot(0), 0);
        account(court, 0, 0, 10, 0, 10, 0, 0);
        court.receive(0, 1, -1);
        court.receive(0, 1, -1);
        for (int n = 0; n < 6; n++) {
            due("of 12, ward " + n, court.about(n, 4), 2);
        }
        court.pay(0, 7, -1);
        int[] ofFive = {0, 1, 1, 1, 1, 1};
        for (int n = 0; n < 6; n++) {
            due("of 5, ward " + n, court.about(n, 4), ofFive[n]);
        }
        court.dies(0, 0);
        court.dies(5, 0);
        int[] ofFour = {0, 1, 1, 1, 2, 0};
        for (int n = 0; n < 6; n++) {
            due("of 5 by 4 heads, ward " + n, court.about(n, 4), ofFour[n]);
            due("given over", court.about(n, 3), n == 0 || n == 5 ? NONE : 0);
        }
    }

    private static void sharesOfNothing() {
        CHECKS.part("0, if THE POT is not above 0");
        WardCourt court = plainCourt();
        court.ward(-7460);
        court.ward(-7460);
        court.ward(-7459);
        court.receive(101, 5, -1);
        court.pay(100, 2, -1);
        due("below 0", court.about(0, 4), 0);
        due("below 0", court.about(1, 4), 0);
        due("given over for all that", court.about(0, 3), 100);
        due("nothing went", court.pot(100), -2);
        due("the last gets what is there by then", court.about(2, 4), 3);
        court.receive(100, 2, -1);
        due("just 0", court.about(0, 4), 0);
        due("just 0", court.about(1, 4), 0);
        due("pot(100)", court.pot(100), 0);
        due("the last", court.about(2, 4), 5);
        court.receive(100, 1, -1);
        due("1 by three heads", court.about(0, 4), 0);
        due("1 by two heads", court.about(1, 4), 0);
        due("pot(100)", court.pot(100), 1);
        due("6 by one", court.about(2, 4), 6);
        account(court, 0, 0, 8, 2, 6, 0, 0);
    }

    private static void sharesOfThoseAhead() {
        CHECKS.part("GIVEN OVER: WARDS that are HEADS, and of FULL AGE");
        WardCourt court = plainCourt();
        court.receive(0, 100, -1);
        court.ward(101);
        court.ward(-7460);
        due("one not born yet is no head", court.about(1, 4), 100);
        due("a child is not given over", court.about(0, 3), NONE);
        court.ward(100);
        due("one born on the day is", court.about(1, 4), 50);
        court.dies(2, 101);
        due("one that dies the day after is", court.about(1, 4), 50);
        court.dies(2, 100);
        due("one that dies on the day is not", court.about(1, 4), 100);
        court.ward(-7461);
        due("one given over the day ahead gets its half", court.about(3, 4), 50);
        due("and is no head on the day", court.about(1, 4), 50);
        court.ward(-7460);
        due("of three", court.about(3, 4), 33);
        due("half of 67", court.about(1, 4), 33);
        due("the rest, by numbers", court.about(4, 4), 34);
        due("given over once", court.pot(3599), 0);
        court.receive(102, 9, -1);
        due("what comes later stays", court.pot(3599), 9);
        due("as it was", court.about(4, 4), 34);
    }

    private static void idleAboveTheLaw() {
        CHECKS.part("THE POT less IDLE in force, if that is above 0, times RATE in force");
        WardCourt court = doublingCourt(100);
        court.receive(0, 99, -1);
        due("below IDLE", court.account(0, 4), 0);
        court.receive(0, 1, -1);
        due("just IDLE", court.account(0, 4), 0);
        court.receive(0, 1, -1);
        due("one above IDLE", court.account(0, 4), 1);
        due("and another year", court.account(1, 4), 2);
        WardCourt none = doublingCourt(0);
        due("nothing lies", none.account(0, 4), 0);
        none.receive(0, 1, -1);
        due("one coin, IDLE 0", none.account(0, 4), 1);
        WardCourt most = doublingCourt(10000);
        most.receive(0, 10000, -1);
        due("just the greatest IDLE", most.account(0, 4), 0);
        most.receive(0, 1, -1);
        due("one above the greatest", most.account(0, 4), 1);
        WardCourt half = doublingCourt(100);
        half.receive(0, 200, -1);
        half.pay(180, 200, -1);
        due("what is below IDLE takes nothing from the count", half.account(0, 4), 50);
        WardCourt rates = plainCourt();
        rates.receive(0, 100, -1);
        due("RATE 0", rates.account(0, 4), 0);
        rates.law(0, 21, 0, 1, 0, 0);
        due("RATE 1", rates.account(0, 4), 1);
        rates.law(0, 21, 0, 100, 0, 0);
        due("RATE 100", rates.account(0, 4), 100);
    }

    private static void countedByDays() {
        CHECKS.part("is added to what is counted for the YEAR, each DAY under its own law");
        WardCourt court = new WardCourt();
        court.receive(0, 1000, -1);
        court.law(0, 21, 1000, 100, 50, 3);
        court.law(90, 21, 0, 36, 50, 3);
        due("270 days of 1000 at 36", court.account(0, 4), 270);
        court.law(91, 21, 0, 0, 50, 3);
        due("one day", court.account(0, 4), 1);
        court.law(90, 21, 1, 36, 50, 3);
        due("one day of 999", court.account(0, 4), 0);
        court.law(89, 21, 999, 36, 50, 3);
        due("and one of 1 more", court.account(0, 4), 1);
        court.law(359, 21, 0, 72, 50, 3);
        due("and the last", court.account(0, 4), 3);
        court.law(360, 21, 0, 0, 50, 3);
        due("the last alone of the law of 359", court.account(1, 4), 0);
        court.receive(359, 500, -1);
        due("what comes on the last day counts on it", court.account(0, 4), 4);
        WardCourt first = doublingCourt(0);
        first.receive(360, 360, -1);
        due("what comes the day after does not", first.account(0, 4), 0);
        due("but for its own year", first.account(1, 4), 360);
        first.receive(359, 360, -1);
        due("one day of 360 at 100", first.account(0, 4), 1);
    }

    private static void interestAtTheYearsEnd() {
        CHECKS.part("At the end of a YEAR INTEREST comes into THE POT");
        WardCourt court = doublingCourt(0);
        court.receive(0, 100, -1);
        int pot = 100;
        for (int year = 0; year < 10; year++) {
            due("the first day", court.pot(360 * year), pot);
            due("the last but one", court.pot(360 * year + 358), pot);
            due("the last", court.pot(360 * year + 359), 2 * pot);
            account(court, year, pot - (year == 0 ? 100 : 0), year == 0 ? 100 : 0, 0, 0, pot, 2 * pot);
            pot *= 2;
        }
        court.ward(-7560 + 359);
        due("given over on the last day, without the interest of it", court.about(0, 4), 100);
        account(court, 0, 0, 100, 0, 100, 99, 99);
        due("359 days of 100, with nothing on the last", court.pot(359), 99);
        WardCourt next = doublingCourt(0);
        next.receive(0, 100, -1);
        next.ward(-7560 + 360);
        due("given over on the first day, with it", next.about(0, 4), 200);
        account(next, 1, 200, 0, 0, 200, 0, 0);
        WardCourt last = doublingCourt(0);
        last.receive(3599, 359, -1);
        due("the last day of all, 35900 counted", last.pot(3599), 359);
        last.receive(3599, 1, -1);
        due("the last day of all, 36000 counted", last.pot(3599), 361);
    }

    private static void interestIsCut() {
        CHECKS.part("what is counted, by 36000, cut; the rest is forgotten");
        WardCourt court = new WardCourt();
        court.law(0, 21, 0, 1, 0, 0);
        court.receive(0, 99, -1);
        for (int year = 0; year < 10; year++) {
            due("35640 counted", court.account(year, 4), 0);
        }
        due("after ten years", court.pot(3599), 99);
        court.receive(3240, 1, -1);
        due("36000 counted", court.account(9, 4), 1);
        court.receive(0, 99, -1);
        due("71280 counted", court.account(0, 4), 1);
        court.receive(0, 2, -1);
        due("72000 counted", court.account(0, 4), 2);
        WardCourt exact = new WardCourt();
        exact.law(358, 21, 0, 1, 0, 0);
        exact.law(0, 21, 10000, 0, 0, 0);
        exact.receive(358, 10000, -1);
        exact.receive(358, 7999, -1);
        exact.receive(359, 1, -1);
        due("35999 counted", exact.account(0, 4), 0);
        exact.receive(359, 1, -1);
        due("36000 counted", exact.account(0, 4), 1);
        exact.receive(358, 10000, -1);
        exact.receive(358, 7999, -1);
        exact.receive(359, 1, -1);
        due("71999 counted", exact.account(0, 4), 1);
        exact.receive(359, 1, -1);
        due("72000 counted", exact.account(0, 4), 2);
    }

    private static void greatestPot() {
        CHECKS.part("sixty of the greatest receipts at the greatest rate");
        WardCourt court = doublingCourt(0);
        for (int n = 0; n < 60; n++) {
            court.receive(0, 10000, -1);
        }
        int pot = 600000;
        for (int year = 0; year < 10; year++) {
            due("account(" + year + ", 4)", court.account(year, 4), pot);
            pot *= 2;
            due("account(" + year + ", 5)", court.account(year, 5), pot);
            due("pass(" + year + ")", court.pass(year), pot);
        }
        due("the last day", court.pot(3599), 614400000);
        court.ward(-3961);
        due("given over on the last day", court.about(0, 4), 307200000);
        account(court, 9, 307200000, 0, 0, 307200000, 306346666, 306346666);
        due("the year is open", court.open(), 512);
        passed(court, 9, 307200000, 0, 0, 0, 307200000, 614400000);
    }

    private static void accountsOfAYear() {
        CHECKS.part("ACCOUNT: 0 as it begins, 1 RECEIPTS, 2 PAYMENTS ALLOWED, 3 GIVEN OVER, 4 INTEREST, 5 as it ends");
        WardCourt court = doublingCourt(0);
        for (int year = 0; year < 10; year++) {
            account(court, year, 0, 0, 0, 0, 0, 0);
        }
        court.receive(0, 1000, -1);
        court.receive(359, 720, -1);
        court.pay(0, 100, -1);
        court.pay(359, 10, -1);
        court.ward(-7560 + 180);
        court.ward(-7560 + 359);
        court.ward(0);
        court.challenge(3, true);
        account(court, 0, 0, 1720, 100, 960, 750, 1410);
        account(court, 1, 1410, 0, 0, 0, 1410, 2820);
        court.vouch(3, true);
        account(court, 0, 0, 1720, 110, 955, 750, 1405);
        court.challenge(2, true);
        account(court, 0, 0, 1720, 10, 1021, 833, 1522);
        court.dies(2, 0);
        account(court, 0, 0, 1720, 10, 1710, 748, 748);
    }

    private static void passedAsItWasThen() {
        CHECKS.part("A YEAR is PASSED: its ACCOUNT is kept as it is then");
        WardCourt court = doublingCourt(0);
        for (int year = 0; year < 10; year++) {
            due("not yet", court.passed(year, 0), LOST_STATE);
            due("told(5)", court.told(5), (1 << year) - 1);
            due("a year of nothing", court.pass(year), 0);
            passed(court, year, 0, 0, 0, 0, 0, 0);
        }
        due("all", court.told(5), 1023);
        due("none is open", court.open(), 0);
        court.receive(3240, 10, -1);
        passed(court, 9, 0, 0, 0, 0, 0, 0);
        due("passed again", court.pass(9), 20);
        passed(court, 9, 0, 10, 0, 0, 10, 20);
        court.receive(0, 1, -1);
        passed(court, 9, 0, 10, 0, 0, 10, 20);
        passed(court, 0, 0, 0, 0, 0, 0, 0);
        due("by interest the others too", court.open(), 1023);
        due("the pot as it ends", court.pass(0), 2);
        passed(court, 0, 0, 1, 0, 0, 1, 2);
        passed(court, 1, 0, 0, 0, 0, 0, 0);
        due("open()", court.open(), 1022);
        due("all still", court.told(5), 1023);
        WardCourt poor = plainCourt();
        poor.pay(0, 50, -1);
        due("below 0", poor.pass(0), -50);
        passed(poor, 0, 0, 0, 50, 0, 0, -50);
    }

    private static void openBy1To4() {
        CHECKS.part("It is OPEN, if it was PASSED, and 1, 2, 3 or 4 of it is another one now");
        for (int year = 0; year < 10; year++) {
            WardCourt court = plainCourt();
            int first = 360 * year;
            court.receive(first, 100, -1);
            court.pay(first, 10, -1);
            court.receive(first + 359, 1, -1);
            due("not passed", court.open(), 0);
            court.pass(year);
            due("nothing is another", court.open(), 0);
            court.challenge(1, true);
            due("2 is another", court.open(), 1 << year);
            court.vouch(1, true);
            due("2 is as it was", court.open(), 0);
            court.ward(first + 359 - 7560);
            due("3 is another", court.open(), 1 << year);
            court.dies(0, first + 359);
            due("3 is as it was", court.open(), 0);
            court.law(first, 21, 0, 100, 50, 3);
            due("4 is another", court.open(), 1 << year);
            court.law(first, 21, 0, 0, 50, 3);
            due("4 is as it was", court.open(), 0);
            court.receive(first + 359, 1, -1);
            due("1 is another", court.open(), 1 << year);
            court.pass(year);
            due("passed again", court.open(), 0);
        }
        WardCourt court = plainCourt();
        for (int year = 0; year < 10; year++) {
            court.pass(year);
        }
        court.receive(360, 5, -1);
        due("0 and 5 of those after it are another, and do not open them", court.open(), 2);
        due("account(2, 0)", court.account(2, 0), 5);
        due("passed(2, 0)", court.passed(2, 0), 0);
        court.pay(360, 5, -1);
        due("5 is as it was, 1 and 2 are not", court.open(), 2);
        court.receive(3599, 5, -1);
        due("the last year", court.open(), 514);
        court.receive(0, 5, -1);
        due("the first year", court.open(), 515);
    }

    private static void tellsHowMany() {
        CHECKS.part("told: 0 LAWS, 1 WARDS, 2 LEAVES, 3 ITEMS, 4 LEASES, 5 YEARS that were PASSED (bits)");
        WardCourt court = new WardCourt();
        told(court, 0, 0, 0, 0, 0, 0);
        due("told(-1)", court.told(-1), OUTSIDE);
        due("told(6)", court.told(6), OUTSIDE);
        for (int n = 0; n < 61; n++) {
            court.law(n, 21, 0, 0, 0, 0);
            court.ward(n);
            court.leave(n + 1);
            court.pay(n, 1, -1);
            court.let(n, 1, 1, -1);
            if (n == 5 || n == 6 || n == 9 || n == 10 || n > 58) {
                int told = n + 1;
                told(court, Math.min(8, told), Math.min(6, told), Math.min(10, told), Math.min(60, told),
                        Math.min(10, told), 0);
            }
        }
        court.pass(9);
        told(court, 8, 6, 10, 60, 10, 512);
        court.pass(0);
        told(court, 8, 6, 10, 60, 10, 513);
    }
}
