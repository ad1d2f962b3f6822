import java.util.ArrayList;
import java.util.Arrays;
import java.util.List;
import java.util.TreeSet;

/**
 * Every refusal of every call, on courts that were told nothing, something and
 * all that they can hold: each argument one too small, one too large and far
 * outside; which of two refusals is answered; and that a refused call changes
 * nothing, neither what is answered next nor what is answered after more was told.
 */
public final class RefusalTest {
    private static final int NONE_FITS = 0;
    private static final int UNKNOWN = -1, OUTSIDE = -2, STATE = -3, FULL = -4, NO = -5;
    private static final int LOST = -100000000;
    private static final Checks CHECKS = new Checks("RefusalTest");

    /**
     * Numbers that a short, a byte, a shift or a product by 360 would take for
     * small ones, the answers of refusals, and the ends of the ints.
     */
    private static final int[] FAR = {Integer.MIN_VALUE, Integer.MIN_VALUE + 1, -1073741824, LOST, -11930465, -65536,
        -256, -6, -5, -4, -3, -2, -1, 32, 33, 64, 100, 101, 256, 65536, 65537, 11930465, 1073741824,
        Integer.MAX_VALUE - 1, Integer.MAX_VALUE};

    private interface Call {
        int on(WardCourt court, int... numbers);
    }

    /** The numbers that the document allows for an argument, and what another is refused with. */
    private record Range(int least, int most, int refusal) {
        boolean has(int number) {
            return number >= least && number <= most;
        }
    }

    private record Kind(String name, int answersFrom, Call call, Range... ranges) {
        /** The refusal that fits some numbers first: UNKNOWN goes ahead of OUTSIDE. */
        int refusalOf(int... numbers) {
            boolean isOutside = false;
            for (int n = 0; n < ranges.length; n++) {
                if (!ranges[n].has(numbers[n])) {
                    if (ranges[n].refusal == UNKNOWN) {
                        return UNKNOWN;
                    }
                    isOutside = true;
                }
            }
            return isOutside ? OUTSIDE : NONE_FITS;
        }
    }

    private static final Range DAY = new Range(0, 3599, OUTSIDE);
    private static final Range YEAR = new Range(0, 9, UNKNOWN);
    private static final Range COINS = new Range(1, 10000, OUTSIDE);

    private final Estates estate;
    private final List<Integer> answersDue;
    private final List<Integer> goingOnDue;
    private final List<Integer> answersThenDue;

    private RefusalTest(Estates estate) {
        this.estate = estate;
        answersDue = Estates.answers(estate.court());
        WardCourt gone = estate.court();
        goingOnDue = Estates.goOn(gone);
        answersThenDue = Estates.answers(gone);
    }

    public static void main(String[] args) {
        for (Estates estate : Estates.values()) {
            CHECKS.part(estate.name());
            RefusalTest test = new RefusalTest(estate);
            test.tellsAsMany();
            for (Kind kind : test.kinds()) {
                test.oneWrong(kind);
                test.twoWrong(kind);
            }
        }
        nothingTold();
        receiptsAreNoPayments();
        leavesThatWereUsed();
        noPlaceIsFree();
        noPlaceForOneOfThem();
        diesAheadOfBirth();
        yearsNotPassed();
        CHECKS.end();
    }

    private void tellsAsMany() {
        WardCourt court = estate.court();
        CHECKS.due("told(0)", court.told(0), estate.laws);
        CHECKS.due("told(1)", court.told(1), estate.wards);
        CHECKS.due("told(2)", court.told(2), estate.leaves);
        CHECKS.due("told(3)", court.told(3), estate.items);
        CHECKS.due("told(4)", court.told(4), estate.leases);
    }

    private static Range what(int most) {
        return new Range(0, most, OUTSIDE);
    }

    private List<Kind> kinds() {
        Range ward = new Range(0, estate.wards - 1, UNKNOWN);
        Range leave = new Range(0, estate.leaves - 1, UNKNOWN);
        Range item = new Range(0, estate.items - 1, UNKNOWN);
        Range lease = new Range(0, estate.leases - 1, UNKNOWN);
        Range leaveOrNot = new Range(-1, estate.leaves - 1, UNKNOWN);
        Range leaseOrNot = new Range(-1, estate.leases - 1, UNKNOWN);
        return List.of(
            new Kind("law", 0, (c, n) -> c.law(n[0], n[1], n[2], n[3], n[4], n[5]), DAY, new Range(10, 30, OUTSIDE),
                what(10000), what(100), what(10000), what(10)),
            new Kind("force", 0, (c, n) -> c.force(n[0], n[1]), DAY, what(4)),
            new Kind("ward", 0, (c, n) -> c.ward(n[0]), new Range(-10800, 3599, OUTSIDE)),
            new Kind("dies", 0, (c, n) -> c.dies(n[0], n[1]), ward, new Range(-1, 3599, OUTSIDE)),
            new Kind("about", LOST, (c, n) -> c.about(n[0], n[1]), ward, what(4)),
            new Kind("heads", 0, (c, n) -> c.heads(n[0]), DAY),
            new Kind("leave", 0, (c, n) -> c.leave(n[0]), COINS),
            new Kind("ofLeave", 0, (c, n) -> c.ofLeave(n[0], n[1]), leave, what(1)),
            new Kind("receive", 0, (c, n) -> c.receive(n[0], n[1], n[2]), DAY, COINS, leaseOrNot),
            new Kind("pay", 0, (c, n) -> c.pay(n[0], n[1], n[2]), DAY, COINS, leaveOrNot),
            new Kind("vouch true", 0, (c, n) -> c.vouch(n[0], true), item),
            new Kind("vouch false", 0, (c, n) -> c.vouch(n[0], false), item),
            new Kind("challenge true", 0, (c, n) -> c.challenge(n[0], true), item),
            new Kind("challenge false", 0, (c, n) -> c.challenge(n[0], false), item),
            new Kind("barred", 0, (c, n) -> c.barred(n[0]), item),
            new Kind("let", 0, (c, n) -> c.let(n[0], n[1], n[2], n[3]), DAY, new Range(1, 30, OUTSIDE),
                new Range(1, 1000, OUTSIDE), leaveOrNot),
            new Kind("isVoid", 0, (c, n) -> c.isVoid(n[0]), lease),
            new Kind("arrears", LOST, (c, n) -> c.arrears(n[0], n[1]), lease, DAY),
            new Kind("pot", LOST, (c, n) -> c.pot(n[0]), DAY),
            new Kind("account", LOST, (c, n) -> c.account(n[0], n[1]), YEAR, what(5)),
            new Kind("pass", LOST, (c, n) -> c.pass(n[0]), YEAR),
            new Kind("passed", LOST, (c, n) -> c.passed(n[0], n[1]), YEAR, what(5)),
            new Kind("told", 0, (c, n) -> c.told(n[0]), what(5)));
    }

    private static int[] rightNumbers(Kind kind) {
        int[] numbers = new int[kind.ranges.length];
        for (int n = 0; n < numbers.length; n++) {
            numbers[n] = kind.ranges[n].least;
        }
        return numbers;
    }

    private static List<Integer> wrongNumbers(Range range) {
        TreeSet<Integer> numbers = new TreeSet<>();
        for (int far : FAR) {
            numbers.add(far);
        }
        for (int step : new int[] {1, 2, 10, 256, 360, 65536}) {
            numbers.add(range.least - step);
            numbers.add(range.least + step);
            numbers.add(range.most - step);
            numbers.add(range.most + step);
        }
        numbers.removeIf(range::has);
        return new ArrayList<>(numbers);
    }

    private void oneWrong(Kind kind) {
        for (int n = 0; n < kind.ranges.length; n++) {
            for (int wrong : wrongNumbers(kind.ranges[n])) {
                int[] numbers = rightNumbers(kind);
                numbers[n] = wrong;
                refused(kind, numbers);
            }
        }
    }

    private void twoWrong(Kind kind) {
        for (int n = 0; n < kind.ranges.length; n++) {
            for (int m = n + 1; m < kind.ranges.length; m++) {
                for (int wrong : new int[] {kind.ranges[n].least - 1, kind.ranges[n].most + 1, Integer.MIN_VALUE}) {
                    for (int other : new int[] {kind.ranges[m].least - 1, kind.ranges[m].most + 1, Integer.MAX_VALUE}) {
                        int[] numbers = rightNumbers(kind);
                        numbers[n] = wrong;
                        numbers[m] = other;
                        refused(kind, numbers);
                    }
                }
            }
        }
    }

    private void refused(Kind kind, int... numbers) {
        int refusal = kind.refusalOf(numbers);
        if (refusal == NONE_FITS) {
            return;
        }
        refused(kind.name + Arrays.toString(numbers), court -> kind.call.on(court, numbers), kind.answersFrom + refusal);
    }

    private interface Refused {
        int on(WardCourt court);
    }

    /** The call is refused so, and the court answers on as one does on which it was not called. */
    private void refused(String name, Refused call, int want) {
        WardCourt court = estate.court();
        CHECKS.due(name, call.on(court), want);
        CHECKS.holds(name + " changed nothing", Estates.answers(court).equals(answersDue));
        court = estate.court();
        call.on(court);
        CHECKS.holds(name + " changed nothing of what is told next", Estates.goOn(court).equals(goingOnDue));
        CHECKS.holds(name + " changed nothing later on", Estates.answers(court).equals(answersThenDue));
    }

    private static void nothingTold() {
        CHECKS.part("nothing told yet, numbers that are right else");
        RefusalTest fresh = new RefusalTest(Estates.NEW);
        fresh.refused("dies", c -> c.dies(0, 0), UNKNOWN);
        fresh.refused("dies, it does not", c -> c.dies(0, -1), UNKNOWN);
        for (int what = 0; what < 5; what++) {
            int asked = what;
            fresh.refused("about " + what, c -> c.about(0, asked), LOST + UNKNOWN);
        }
        fresh.refused("ofLeave 0", c -> c.ofLeave(0, 0), UNKNOWN);
        fresh.refused("ofLeave 1", c -> c.ofLeave(0, 1), UNKNOWN);
        fresh.refused("receive", c -> c.receive(0, 1, 0), UNKNOWN);
        fresh.refused("pay", c -> c.pay(0, 1, 0), UNKNOWN);
        fresh.refused("vouch", c -> c.vouch(0, true), UNKNOWN);
        fresh.refused("challenge", c -> c.challenge(0, true), UNKNOWN);
        fresh.refused("barred", c -> c.barred(0), UNKNOWN);
        fresh.refused("let", c -> c.let(0, 1, 1, 0), UNKNOWN);
        fresh.refused("isVoid", c -> c.isVoid(0), UNKNOWN);
        fresh.refused("arrears", c -> c.arrears(0, 0), LOST + UNKNOWN);
        for (int year = 0; year < 10; year++) {
            int asked = year;
            fresh.refused("passed " + year, c -> c.passed(asked, 0), LOST + STATE);
        }
    }

    private static void receiptsAreNoPayments() {
        CHECKS.part("STATE: it is a RECEIPT");
        for (Estates estate : List.of(Estates.SOME, Estates.FULL)) {
            RefusalTest test = new RefusalTest(estate);
            for (int receipt : new int[] {0, 1, 2, 8}) {
                for (boolean is : new boolean[] {true, false}) {
                    test.refused("vouch " + receipt + " " + is, c -> c.vouch(receipt, is), STATE);
                    test.refused("challenge " + receipt + " " + is, c -> c.challenge(receipt, is), STATE);
                }
            }
        }
        RefusalTest full = new RefusalTest(Estates.FULL);
        full.refused("vouch the last receipt", c -> c.vouch(58, true), STATE);
        full.refused("challenge the last receipt", c -> c.challenge(58, true), STATE);
        WardCourt court = Estates.FULL.court();
        CHECKS.due("vouch the last item, a payment", court.vouch(59, true), 0);
        CHECKS.due("challenge it", court.challenge(59, true), 0);
    }

    private static void leavesThatWereUsed() {
        CHECKS.part("NO: the LEAVE was for something");
        RefusalTest some = new RefusalTest(Estates.SOME);
        for (int leave : new int[] {0, 1}) {
            some.refused("pay with leave " + leave, c -> c.pay(0, 1, leave), NO);
            some.refused("let with leave " + leave, c -> c.let(0, 1, 1, leave), NO);
            some.refused("pay with leave " + leave + " on no day", c -> c.pay(3600, 1, leave), OUTSIDE);
            some.refused("pay no coins with leave " + leave, c -> c.pay(0, 0, leave), OUTSIDE);
            some.refused("let with leave " + leave + " on no day", c -> c.let(-1, 1, 1, leave), OUTSIDE);
            some.refused("let no years with leave " + leave, c -> c.let(0, 0, 1, leave), OUTSIDE);
            some.refused("let for no rent with leave " + leave, c -> c.let(0, 1, 0, leave), OUTSIDE);
        }
        for (int leave : new int[] {2, 3}) {
            CHECKS.due("pay with leave " + leave, Estates.SOME.court().pay(0, 1, leave), 9);
            CHECKS.due("let with leave " + leave, Estates.SOME.court().let(0, 1, 1, leave), 3);
        }
    }

    private static void noPlaceIsFree() {
        CHECKS.part("FULL, and which refusals go ahead of it and come after it");
        RefusalTest full = new RefusalTest(Estates.FULL);
        full.refused("law", c -> c.law(0, 21, 0, 0, 0, 0), FULL);
        full.refused("law of a day that has one", c -> c.law(100, 10, 1, 1, 1, 1), FULL);
        full.refused("law, outside", c -> c.law(0, 21, 0, 0, 0, 11), OUTSIDE);
        full.refused("ward", c -> c.ward(-10800), FULL);
        full.refused("ward, outside", c -> c.ward(-10801), OUTSIDE);
        full.refused("leave", c -> c.leave(10000), FULL);
        full.refused("leave, outside", c -> c.leave(10001), OUTSIDE);
        full.refused("receive", c -> c.receive(3599, 10000, -1), FULL);
        full.refused("receive rent", c -> c.receive(0, 1, 9), FULL);
        full.refused("receive, outside", c -> c.receive(0, 0, 9), OUTSIDE);
        full.refused("receive, unknown", c -> c.receive(0, 1, 10), UNKNOWN);
        full.refused("pay", c -> c.pay(3599, 1, -1), FULL);
        full.refused("pay with a leave that is free", c -> c.pay(0, 1, 2), FULL);
        full.refused("pay with a leave that was used", c -> c.pay(0, 1, 0), FULL);
        full.refused("pay, outside, with a leave that was used", c -> c.pay(0, 10001, 0), OUTSIDE);
        full.refused("pay, unknown", c -> c.pay(0, 1, 10), UNKNOWN);
        full.refused("let", c -> c.let(0, 1, 1, -1), FULL);
        full.refused("let with a leave that is free", c -> c.let(0, 1, 1, 3), FULL);
        full.refused("let with a leave that was used", c -> c.let(0, 1, 1, 1), FULL);
        full.refused("let, outside, with a leave that was used", c -> c.let(0, 1, 1001, 1), OUTSIDE);
        full.refused("let, unknown", c -> c.let(0, 1, 1, 10), UNKNOWN);
    }

    /** Where one kind has no place, the others have theirs still. */
    private static void noPlaceForOneOfThem() {
        CHECKS.part("each kind has its own places");
        WardCourt items = new WardCourt();
        items.leave(5);
        for (int n = 0; n < 60; n++) {
            CHECKS.due("item " + n, n % 3 == 0 ? items.pay(n, 1, -1) : items.receive(n, 1, -1), n);
        }
        CHECKS.due("a receipt too many", items.receive(0, 1, -1), FULL);
        CHECKS.due("a payment too many", items.pay(0, 1, 0), FULL);
        CHECKS.due("law", items.law(0, 21, 0, 0, 50, 3), 1);
        CHECKS.due("ward", items.ward(0), 0);
        CHECKS.due("leave", items.leave(1), 1);
        CHECKS.due("let, with the leave that was not used", items.let(0, 5, 1, 0), 0);
        CHECKS.due("which is used now, and no item has a place", items.pay(0, 1, 0), FULL);
        CHECKS.due("and a lease has one", items.let(0, 5, 1, 0), NO);

        WardCourt leases = new WardCourt();
        leases.leave(5);
        for (int n = 0; n < 10; n++) {
            CHECKS.due("lease " + n, leases.let(n, 1, 1, -1), n);
        }
        CHECKS.due("a lease too many", leases.let(0, 5, 1, 0), FULL);
        CHECKS.due("pay, with the leave that was not used", leases.pay(0, 5, 0), 0);
        CHECKS.due("which is used now, and no lease has a place", leases.let(0, 5, 1, 0), FULL);
        CHECKS.due("and a payment has one", leases.pay(0, 5, 0), NO);
        CHECKS.due("receive", leases.receive(0, 5, 9), 1);
        CHECKS.due("law", leases.law(0, 21, 0, 0, 50, 3), 1);
        CHECKS.due("ward", leases.ward(0), 0);
        CHECKS.due("leave", leases.leave(1), 1);

        WardCourt others = new WardCourt();
        for (int n = 0; n < 8; n++) {
            CHECKS.due("law " + n, others.law(n, 21, 0, 0, 50, 3), n + 1);
        }
        CHECKS.due("a law too many", others.law(0, 21, 0, 0, 50, 3), FULL);
        for (int n = 0; n < 6; n++) {
            CHECKS.due("ward " + n, others.ward(n), n);
        }
        CHECKS.due("a ward too many", others.ward(0), FULL);
        for (int n = 0; n < 10; n++) {
            CHECKS.due("leave " + n, others.leave(1 + n), n);
        }
        CHECKS.due("a leave too many", others.leave(1), FULL);
        CHECKS.due("pay, with the last leave", others.pay(0, 1, 9), 0);
        CHECKS.due("let", others.let(0, 1, 1, 8), 0);
    }

    private static void diesAheadOfBirth() {
        CHECKS.part("OUTSIDE: also a DAY before it was born");
        RefusalTest some = new RefusalTest(Estates.SOME);
        some.refused("no such ward, before it was born", c -> c.dies(3, -2), UNKNOWN);
        some.refused("the day of a birth that was no day", c -> c.dies(0, -7000), OUTSIDE);
        some.refused("NONE is no day", c -> c.dies(0, WardCourt.NONE), OUTSIDE);
        RefusalTest full = new RefusalTest(Estates.FULL);
        full.refused("a day before", c -> c.dies(5, 2499), OUTSIDE);
        full.refused("the first day", c -> c.dies(5, 0), OUTSIDE);
        full.refused("a day before another's birth", c -> c.dies(3, 1499), OUTSIDE);
        WardCourt court = Estates.FULL.court();
        CHECKS.due("on its birth", court.dies(5, 2500), -6);
        CHECKS.due("a day before it, still", court.dies(5, 2499), OUTSIDE);
        CHECKS.due("on another's", court.dies(3, 1500), -6);
        CHECKS.due("the day was kept", court.dies(5, -1), 2500);
    }

    private static void yearsNotPassed() {
        CHECKS.part("STATE: it was not PASSED");
        RefusalTest some = new RefusalTest(Estates.SOME);
        for (int year : new int[] {1, 2, 4, 5, 6, 7, 8, 9}) {
            some.refused("passed " + year + " 0", c -> c.passed(year, 0), LOST + STATE);
            some.refused("passed " + year + " 5", c -> c.passed(year, 5), LOST + STATE);
            some.refused("passed " + year + " 6", c -> c.passed(year, 6), LOST + OUTSIDE);
            some.refused("passed " + year + " -1", c -> c.passed(year, -1), LOST + OUTSIDE);
        }
        some.refused("no year, and it was not", c -> c.passed(10, 0), LOST + UNKNOWN);
        some.refused("no year, nothing of it, and it was not", c -> c.passed(-1, 6), LOST + UNKNOWN);
        WardCourt court = Estates.SOME.court();
        for (int year : new int[] {0, 3}) {
            CHECKS.holds("year " + year + " was", court.passed(year, 0) > LOST);
        }
    }
}
