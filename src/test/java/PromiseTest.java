/** For each promise of the document: ordinary inputs, the edges that it names, and wrong inputs. */
public final class PromiseTest {
    private static final int LOST_UNKNOWN = -100000001;
    private static final int LOST_OUTSIDE = -100000002;
    private static final int LOST_STATE = -100000003;
    private static final Checks CHECKS = new Checks("PromiseTest");

    public static void main(String[] args) {
        constants();
        newObject();
        law();
        force();
        ward();
        dies();
        about();
        fullAge();
        givenOver();
        heads();
        leave();
        ofLeave();
        receive();
        pay();
        vouch();
        challenge();
        barred();
        let();
        isVoid();
        arrears();
        pot();
        interest();
        account();
        pass();
        passed();
        open();
        told();
        CHECKS.end();
    }

    private static void due(String what, long got, long want) {
        CHECKS.due(what, got, want);
    }

    /** A court under one law from day 0 on, in which nothing lies idle. */
    private static WardCourt courtWithoutInterest() {
        WardCourt court = new WardCourt();
        court.law(0, 21, 0, 0, 50, 3);
        return court;
    }

    private static void account(WardCourt court, int year, int... want) {
        for (int what = 0; what < want.length; what++) {
            due("account(" + year + ", " + what + ")", court.account(year, what), want[what]);
        }
    }

    private static void told(WardCourt court, int... want) {
        for (int what = 0; what < want.length; what++) {
            due("told(" + what + ")", court.told(what), want[what]);
        }
    }

    private static void constants() {
        CHECKS.part("the constants");
        due("NONE", WardCourt.NONE, -6);
        due("UNKNOWN", WardCourt.UNKNOWN, -1);
        due("OUTSIDE", WardCourt.OUTSIDE, -2);
        due("STATE", WardCourt.STATE, -3);
        due("FULL", WardCourt.FULL, -4);
        due("NO", WardCourt.NO, -5);
        due("LOST", WardCourt.LOST, -100000000);
    }

    private static void newObject() {
        CHECKS.part("promise 1");
        WardCourt court = new WardCourt();
        told(court, 0, 0, 0, 0, 0, 0);
        due("about(0, 0)", court.about(0, 0), LOST_UNKNOWN);
        due("ofLeave(0, 0)", court.ofLeave(0, 0), -1);
        due("barred(0)", court.barred(0), -1);
        due("isVoid(0)", court.isVoid(0), -1);
        due("heads(0)", court.heads(0), 0);
        due("heads(3599)", court.heads(3599), 0);
        due("pot(0)", court.pot(0), 0);
        due("pot(3599)", court.pot(3599), 0);
        due("open()", court.open(), 0);
        for (int year = 0; year < 10; year++) {
            account(court, year, 0, 0, 0, 0, 0, 0);
            due("passed(" + year + ", 0)", court.passed(year, 0), LOST_STATE);
        }
        court.ward(0);
        court.leave(1);
        court.receive(0, 1, -1);
        told(new WardCourt(), 0, 0, 0, 0, 0, 0);
    }

    private static void law() {
        CHECKS.part("promise 2");
        WardCourt court = new WardCourt();
        due("law(-1, ..)", court.law(-1, 21, 0, 0, 0, 0), -2);
        due("law(3600, ..)", court.law(3600, 21, 0, 0, 0, 0), -2);
        due("age 9", court.law(0, 9, 0, 0, 0, 0), -2);
        due("age 31", court.law(0, 31, 0, 0, 0, 0), -2);
        due("idle -1", court.law(0, 21, -1, 0, 0, 0), -2);
        due("idle 10001", court.law(0, 21, 10001, 0, 0, 0), -2);
        due("rate -1", court.law(0, 21, 0, -1, 0, 0), -2);
        due("rate 101", court.law(0, 21, 0, 101, 0, 0), -2);
        due("free -1", court.law(0, 21, 0, 0, -1, 0), -2);
        due("free 10001", court.law(0, 21, 0, 0, 10001, 0), -2);
        due("term -1", court.law(0, 21, 0, 0, 0, -1), -2);
        due("term 11", court.law(0, 21, 0, 0, 0, 11), -2);
        due("the greatest int", court.law(Integer.MAX_VALUE, 21, 0, 0, 0, 0), -2);
        due("the least int", court.law(Integer.MIN_VALUE, 21, 0, 0, 0, 0), -2);
        due("told(0) after refusals", court.told(0), 0);
        due("force(0, 0) after refusals", court.force(0, 0), 21);
        due("the least of all", court.law(0, 10, 0, 0, 0, 0), 1);
        due("the greatest of all", court.law(3599, 30, 10000, 100, 10000, 10), 2);
        for (int n = 3; n <= 8; n++) {
            due("law " + n, court.law(5, 20, 1, 2, 3, 4), n);
        }
        due("a ninth law", court.law(5, 25, 1, 2, 3, 4), -4);
        due("a ninth law, outside", court.law(3600, 25, 1, 2, 3, 4), -2);
        due("told(0)", court.told(0), 8);
        due("force(5, 0)", court.force(5, 0), 20);
    }

    private static void force() {
        CHECKS.part("promise 3");
        WardCourt court = new WardCourt();
        forceIs(court, 0, 21, 100, 5, 50, 3);
        forceIs(court, 3599, 21, 100, 5, 50, 3);
        court.law(100, 11, 12, 13, 14, 5);
        forceIs(court, 99, 21, 100, 5, 50, 3);
        forceIs(court, 100, 11, 12, 13, 14, 5);
        court.law(300, 22, 23, 24, 25, 6);
        court.law(200, 15, 16, 17, 18, 7);
        forceIs(court, 199, 11, 12, 13, 14, 5);
        forceIs(court, 200, 15, 16, 17, 18, 7);
        forceIs(court, 299, 15, 16, 17, 18, 7);
        forceIs(court, 300, 22, 23, 24, 25, 6);
        forceIs(court, 3599, 22, 23, 24, 25, 6);
        court.law(200, 28, 29, 30, 31, 8);
        forceIs(court, 200, 28, 29, 30, 31, 8);
        forceIs(court, 300, 22, 23, 24, 25, 6);
        WardCourt late = new WardCourt();
        late.law(200, 11, 12, 13, 14, 5);
        late.law(100, 22, 23, 24, 25, 6);
        forceIs(late, 99, 21, 100, 5, 50, 3);
        forceIs(late, 199, 22, 23, 24, 25, 6);
        forceIs(late, 200, 11, 12, 13, 14, 5);
        due("force(-1, 0)", court.force(-1, 0), -2);
        due("force(3600, 0)", court.force(3600, 0), -2);
        due("force(0, -1)", court.force(0, -1), -2);
        due("force(0, 5)", court.force(0, 5), -2);
    }

    private static void forceIs(WardCourt court, int day, int... want) {
        for (int what = 0; what < want.length; what++) {
            due("force(" + day + ", " + what + ")", court.force(day, what), want[what]);
        }
    }

    private static void ward() {
        CHECKS.part("promise 4");
        WardCourt court = new WardCourt();
        due("ward(-10801)", court.ward(-10801), -2);
        due("ward(3600)", court.ward(3600), -2);
        due("told(1) after refusals", court.told(1), 0);
        due("ward(-10800)", court.ward(-10800), 0);
        due("ward(3599)", court.ward(3599), 1);
        for (int n = 2; n < 6; n++) {
            due("ward " + n, court.ward(n), n);
        }
        due("a seventh ward", court.ward(0), -4);
        due("a seventh ward, outside", court.ward(3600), -2);
        due("told(1)", court.told(1), 6);
        due("about(5, 0)", court.about(5, 0), 5);
    }

    private static void dies() {
        CHECKS.part("promise 5");
        WardCourt court = new WardCourt();
        due("no ward", court.dies(0, 5), -1);
        due("no ward, outside too", court.dies(0, 3600), -1);
        court.ward(100);
        court.ward(-5);
        due("ward -1", court.dies(-1, 200), -1);
        due("ward 2", court.dies(2, 200), -1);
        due("dies(0, -2)", court.dies(0, -2), -2);
        due("dies(0, 3600)", court.dies(0, 3600), -2);
        due("before it was born", court.dies(0, 99), -2);
        due("dies(1, -5), no day", court.dies(1, -5), -2);
        due("about(0, 1) after refusals", court.about(0, 1), -6);
        due("on its day of birth", court.dies(0, 100), -6);
        due("about(0, 1)", court.about(0, 1), 100);
        due("dies(0, 3599)", court.dies(0, 3599), 100);
        due("refused", court.dies(0, 0), -2);
        due("it does not", court.dies(0, -1), 3599);
        due("about(0, 1)", court.about(0, 1), -6);
        due("it did not", court.dies(0, -1), -6);
        due("dies(1, 0)", court.dies(1, 0), -6);
        due("dies(1, 1)", court.dies(1, 1), 0);
    }

    private static void about() {
        CHECKS.part("promise 6");
        WardCourt court = courtWithoutInterest();
        due("no ward", court.about(0, 0), LOST_UNKNOWN);
        court.ward(-7460);
        due("ward -1", court.about(-1, 0), LOST_UNKNOWN);
        due("ward 1", court.about(1, 0), LOST_UNKNOWN);
        due("ward 1, outside too", court.about(1, 9), LOST_UNKNOWN);
        due("about(0, -1)", court.about(0, -1), LOST_OUTSIDE);
        due("about(0, 5)", court.about(0, 5), LOST_OUTSIDE);
        aboutIs(court, 0, -7460, -6, 100, 100, 0);
        court.receive(100, 77, -1);
        aboutIs(court, 0, -7460, -6, 100, 100, 77);
        court.dies(0, 101);
        aboutIs(court, 0, -7460, 101, 100, 100, 77);
        court.dies(0, 100);
        aboutIs(court, 0, -7460, 100, 100, -6, 0);
        court.dies(0, -1);
        aboutIs(court, 0, -7460, -6, 100, 100, 77);
    }

    private static void aboutIs(WardCourt court, int ward, int... want) {
        for (int what = 0; what < want.length; what++) {
            due("about(" + ward + ", " + what + ")", court.about(ward, what), want[what]);
        }
    }

    private static void fullAge() {
        CHECKS.part("promise 6, full age");
        WardCourt court = new WardCourt();
        court.ward(-7560);
        court.ward(-7559);
        court.ward(-10800);
        court.ward(-3961);
        court.ward(-3960);
        court.ward(-7561);
        due("of age since the day ahead of day 0", court.about(5, 2), 0);
        due("just of age on day 0", court.about(0, 2), 0);
        due("a day younger", court.about(1, 2), 1);
        due("long of age", court.about(2, 2), 0);
        due("on the last day", court.about(3, 2), 3599);
        due("a day too late", court.about(4, 2), -6);
        court.law(0, 30, 0, 0, 0, 0);
        due("older years from day 0 on", court.about(0, 2), 3240);
        due("the eldest still", court.about(2, 2), 0);
        court.law(200, 20, 0, 0, 0, 0);
        due("on the day of a lower AGE", court.about(0, 2), 200);
        court.law(199, 22, 0, 0, 0, 0);
        due("just a higher AGE ahead", court.about(0, 2), 200);
        court.law(100, 10, 0, 0, 0, 0);
        due("on the first of two such days", court.about(0, 2), 100);
        court.law(101, 30, 0, 0, 0, 0);
        due("once of age, always", court.about(0, 2), 100);
        due("a child of the same day", court.about(4, 2), 100);
    }

    private static void givenOver() {
        CHECKS.part("promise 6, given over");
        WardCourt court = courtWithoutInterest();
        court.ward(-7460);
        court.ward(-7460);
        court.ward(0);
        court.receive(100, 100, -1);
        due("the first of three heads", court.about(0, 4), 33);
        due("the next, of what is left", court.about(1, 4), 33);
        due("who is a child", court.about(2, 4), 0);
        due("what is left", court.pot(100), 34);
        court.pay(100, 50, -1);
        due("payments of the day go out ahead", court.about(0, 4), 16);
        due("half of 34", court.about(1, 4), 17);
        court.dies(2, 101);
        due("a head until tomorrow", court.about(0, 4), 16);
        court.dies(2, 100);
        due("no head from today on", court.about(0, 4), 25);
        due("all that is left", court.about(1, 4), 25);
        due("nothing is left", court.pot(100), 0);
        court.receive(101, 10, -1);
        due("what comes later stays", court.pot(101), 10);
        due("the share is as it was", court.about(1, 4), 25);
        court.receive(200, 10, -1);
        court.ward(-7360);
        due("a share of the next, a head on day 100 too", court.about(3, 4), 37);

        WardCourt small = courtWithoutInterest();
        small.ward(-7560);
        small.ward(-7560);
        small.receive(0, 1, -1);
        due("1 by 2 heads", small.about(0, 4), 0);
        due("1 by 1 head", small.about(1, 4), 1);

        WardCourt poor = courtWithoutInterest();
        poor.ward(-7560);
        poor.ward(-7559);
        poor.pay(0, 10, -1);
        due("a pot below 0 gives nothing", poor.about(0, 4), 0);
        due("but is given over", poor.about(0, 3), 0);
        poor.receive(1, 110, -1);
        due("heads less those given over on days ahead", poor.about(1, 4), 100);
        due("born later is no head", poor.ward(2), 2);
        due("about(1, 4)", poor.about(1, 4), 100);
        due("born on that day is one", poor.ward(1), 3);
        due("about(1, 4)", poor.about(1, 4), 50);
    }

    private static void heads() {
        CHECKS.part("promise 7");
        WardCourt court = new WardCourt();
        court.ward(-7460);
        court.ward(50);
        due("heads(-1)", court.heads(-1), -2);
        due("heads(3600)", court.heads(3600), -2);
        due("ahead of a birth", court.heads(49), 1);
        due("on a birth", court.heads(50), 2);
        due("on a giving over, as its items come", court.heads(100), 2);
        due("the day after", court.heads(101), 1);
        due("on the last day", court.heads(3599), 1);
        court.dies(1, 60);
        due("ahead of a death", court.heads(59), 2);
        due("on a death", court.heads(60), 1);
        court.dies(0, 100);
        due("who dies is not given over", court.heads(99), 1);
        due("heads(100)", court.heads(100), 0);
        court.dies(0, 99);
        due("heads(99)", court.heads(99), 0);
    }

    private static void leave() {
        CHECKS.part("promise 8");
        WardCourt court = new WardCourt();
        due("leave(0)", court.leave(0), -2);
        due("leave(10001)", court.leave(10001), -2);
        due("told(2) after refusals", court.told(2), 0);
        due("leave(1)", court.leave(1), 0);
        due("leave(10000)", court.leave(10000), 1);
        for (int n = 2; n < 10; n++) {
            due("leave " + n, court.leave(7), n);
        }
        due("an eleventh leave", court.leave(7), -4);
        due("an eleventh leave, outside", court.leave(0), -2);
        due("told(2)", court.told(2), 10);
    }

    private static void ofLeave() {
        CHECKS.part("promise 9");
        WardCourt court = new WardCourt();
        due("no leave", court.ofLeave(0, 0), -1);
        court.leave(70);
        court.leave(9);
        court.leave(8);
        due("leave -1", court.ofLeave(-1, 0), -1);
        due("leave 3", court.ofLeave(3, 0), -1);
        due("leave 3, outside too", court.ofLeave(3, 2), -1);
        due("ofLeave(0, -1)", court.ofLeave(0, -1), -2);
        due("ofLeave(0, 2)", court.ofLeave(0, 2), -2);
        due("ofLeave(0, 0)", court.ofLeave(0, 0), 70);
        due("ofLeave(2, 0)", court.ofLeave(2, 0), 8);
        due("for nothing yet", court.ofLeave(0, 1), -6);
        court.receive(0, 1, -1);
        court.pay(0, 70, 0);
        due("for an item", court.ofLeave(0, 1), 1);
        court.let(0, 1, 1, -1);
        court.let(0, 9, 1, 1);
        due("for a lease", court.ofLeave(1, 1), 101);
        due("the other is for nothing", court.ofLeave(2, 1), -6);
    }

    private static void receive() {
        CHECKS.part("promise 10");
        WardCourt court = new WardCourt();
        due("no lease", court.receive(0, 1, 0), -1);
        due("lease -2", court.receive(0, 1, -2), -1);
        due("no lease, outside too", court.receive(-1, 0, 0), -1);
        due("day -1", court.receive(-1, 1, -1), -2);
        due("day 3600", court.receive(3600, 1, -1), -2);
        due("coins 0", court.receive(0, 0, -1), -2);
        due("coins 10001", court.receive(0, 10001, -1), -2);
        due("told(3) after refusals", court.told(3), 0);
        due("pot(0) after refusals", court.pot(0), 0);
        due("the least", court.receive(0, 1, -1), 0);
        due("the greatest", court.receive(3599, 10000, -1), 1);
        due("pot(0)", court.pot(0), 1);
        court.let(0, 9, 5, -1);
        due("rent of a void lease", court.receive(0, 1, 0), 2);
        for (int n = 3; n < 60; n++) {
            due("receipt " + n, court.receive(0, 1, 0), n);
        }
        due("one too many", court.receive(0, 1, 0), -4);
        due("one too many, outside", court.receive(0, 0, 0), -2);
        due("one too many, no lease", court.receive(0, 1, 1), -1);
        due("a payment too many", court.pay(0, 1, -1), -4);
        due("told(3)", court.told(3), 60);
        due("pot(0)", court.pot(0), 59);
    }

    private static void pay() {
        CHECKS.part("promise 11");
        WardCourt court = new WardCourt();
        due("no leave", court.pay(0, 1, 0), -1);
        due("leave -2", court.pay(0, 1, -2), -1);
        due("no leave, outside too", court.pay(3600, 1, 0), -1);
        due("day -1", court.pay(-1, 1, -1), -2);
        due("day 3600", court.pay(3600, 1, -1), -2);
        due("coins 0", court.pay(0, 0, -1), -2);
        due("coins 10001", court.pay(0, 10001, -1), -2);
        due("told(3) after refusals", court.told(3), 0);
        court.leave(10000);
        court.leave(10);
        due("with a leave", court.pay(3599, 10000, 0), 0);
        due("the leave was for a payment", court.pay(0, 1, 0), -5);
        due("the leave was used, outside", court.pay(0, 0, 0), -2);
        court.let(0, 4, 1, 1);
        due("the leave was for a lease", court.pay(0, 1, 1), -5);
        due("told(3)", court.told(3), 1);
        for (int n = 1; n < 60; n++) {
            due("payment " + n, court.pay(0, 1, -1), n);
        }
        due("one too many", court.pay(0, 1, -1), -4);
        due("one too many, leave used", court.pay(0, 1, 0), -4);
        court.leave(5);
        due("one too many, with a leave", court.pay(0, 1, 2), -4);
        due("which was not used", court.ofLeave(2, 1), -6);
        due("a receipt too many", court.receive(0, 1, -1), -4);
        due("pot(0)", court.pot(0), -59);
        due("pot(3599)", court.pot(3599), -10059);
    }

    private static void vouch() {
        CHECKS.part("promise 12");
        WardCourt court = new WardCourt();
        due("no item", court.vouch(0, true), -1);
        court.receive(0, 1, -1);
        court.pay(0, 1, -1);
        due("item -1", court.vouch(-1, true), -1);
        due("item 2", court.vouch(2, true), -1);
        due("a receipt", court.vouch(0, true), -3);
        due("it had none", court.vouch(1, true), 0);
        due("it had", court.vouch(1, true), 1);
        due("it had still", court.vouch(1, false), 1);
        due("it had none again", court.vouch(1, false), 0);
        due("a voucher is no challenge", court.challenge(1, false), 0);
        court.challenge(1, true);
        due("without a voucher", court.pot(0), 1);
        court.vouch(1, true);
        due("with a voucher", court.pot(0), 0);
        court.vouch(1, false);
        due("voucher taken back", court.pot(0), 1);
    }

    private static void challenge() {
        CHECKS.part("promise 13");
        WardCourt court = new WardCourt();
        due("no item", court.challenge(0, true), -1);
        court.receive(0, 100, -1);
        court.pay(0, 1, -1);
        due("item -1", court.challenge(-1, true), -1);
        due("item 2", court.challenge(2, true), -1);
        due("a receipt", court.challenge(0, true), -3);
        due("it was not", court.challenge(1, true), 0);
        due("pot(0)", court.pot(0), 100);
        due("it was", court.challenge(1, true), 1);
        due("it was still", court.challenge(1, false), 1);
        due("pot(0)", court.pot(0), 99);
        due("it was not again", court.challenge(1, false), 0);
        due("a challenge is no voucher", court.vouch(1, false), 0);
    }

    private static void barred() {
        CHECKS.part("promise 14");
        WardCourt court = new WardCourt();
        due("no item", court.barred(0), -1);
        court.leave(60);
        court.leave(59);
        court.leave(1);
        court.receive(0, 10000, -1);
        court.pay(0, 50, -1);
        court.pay(0, 51, -1);
        court.pay(0, 60, 0);
        court.pay(0, 60, 1);
        court.pay(0, 2, 2);
        due("item -1", court.barred(-1), -1);
        due("item 6", court.barred(6), -1);
        due("a receipt", court.barred(0), 0);
        due("just FREE", court.barred(1), 0);
        due("above FREE", court.barred(2), 1);
        due("just what its leave is for", court.barred(3), 0);
        due("its leave is for less", court.barred(4), 4);
        due("a leave for less binds below FREE too", court.barred(5), 4);
        for (int item = 1; item < 6; item++) {
            court.challenge(item, true);
        }
        due("challenged", court.barred(1), 2);
        due("above FREE, challenged", court.barred(2), 3);
        due("leave, challenged", court.barred(3), 2);
        due("leave for less, challenged", court.barred(4), 6);
        court.vouch(2, true);
        court.vouch(3, true);
        due("above FREE, vouched for", court.barred(2), 1);
        due("leave, vouched for", court.barred(3), 0);
        court.vouch(3, false);
        due("voucher taken back", court.barred(3), 2);
        court.law(0, 21, 0, 0, 51, 0);
        due("under a law told late", court.barred(2), 0);
        court.law(1, 21, 0, 0, 0, 0);
        due("of a later day", court.barred(2), 0);
        court.law(0, 21, 0, 0, 49, 0);
        due("that one again", court.barred(2), 1);
        due("and below what was free", court.barred(1), 3);
    }

    private static void let() {
        CHECKS.part("promise 15");
        WardCourt court = new WardCourt();
        due("no leave", court.let(0, 1, 1, 0), -1);
        due("leave -2", court.let(0, 1, 1, -2), -1);
        due("no leave, outside too", court.let(0, 31, 1, 0), -1);
        due("day -1", court.let(-1, 1, 1, -1), -2);
        due("day 3600", court.let(3600, 1, 1, -1), -2);
        due("years 0", court.let(0, 0, 1, -1), -2);
        due("years 31", court.let(0, 31, 1, -1), -2);
        due("rent 0", court.let(0, 1, 0, -1), -2);
        due("rent 1001", court.let(0, 1, 1001, -1), -2);
        due("told(4) after refusals", court.told(4), 0);
        court.leave(5);
        court.leave(6);
        due("the greatest", court.let(3599, 30, 1000, 0), 0);
        due("the leave was for a lease", court.let(0, 1, 1, 0), -5);
        court.pay(0, 1, 1);
        due("the leave was for a payment", court.let(0, 1, 1, 1), -5);
        due("the leave was used, outside", court.let(0, 1, 0, 1), -2);
        due("told(4)", court.told(4), 1);
        for (int n = 1; n < 10; n++) {
            due("lease " + n, court.let(0, 1, 1, -1), n);
        }
        due("one too many", court.let(0, 1, 1, -1), -4);
        due("one too many, leave used", court.let(0, 1, 1, 1), -4);
        court.leave(5);
        due("one too many, with a leave", court.let(0, 1, 1, 2), -4);
        due("which was not used", court.ofLeave(2, 1), -6);
        due("one too many, outside", court.let(0, 0, 1, -1), -2);
        due("told(4)", court.told(4), 10);
    }

    private static void isVoid() {
        CHECKS.part("promise 16");
        WardCourt court = new WardCourt();
        due("no lease", court.isVoid(0), -1);
        court.leave(5);
        court.leave(4);
        court.leave(1);
        court.let(10, 3, 1, -1);
        court.let(10, 4, 1, -1);
        court.let(10, 5, 1, 0);
        court.let(10, 5, 1, 1);
        court.let(10, 2, 1, 2);
        due("lease -1", court.isVoid(-1), -1);
        due("lease 5", court.isVoid(5), -1);
        due("just TERM", court.isVoid(0), 0);
        due("above TERM", court.isVoid(1), 1);
        due("just what its leave is for", court.isVoid(2), 0);
        due("its leave is for less", court.isVoid(3), 4);
        due("a leave for less binds below TERM too", court.isVoid(4), 4);
        court.law(11, 21, 0, 0, 0, 10);
        due("a law of a later day", court.isVoid(1), 1);
        court.law(10, 21, 0, 0, 0, 4);
        due("a law told late", court.isVoid(1), 0);
        court.law(10, 21, 0, 0, 0, 2);
        due("another told later", court.isVoid(0), 1);
    }

    private static void arrears() {
        CHECKS.part("promise 17");
        WardCourt court = new WardCourt();
        due("no lease", court.arrears(0, 0), LOST_UNKNOWN);
        court.let(100, 3, 40, -1);
        court.let(0, 4, 1000, -1);
        court.leave(30);
        court.let(0, 30, 1000, 0);
        due("lease -1", court.arrears(-1, 0), LOST_UNKNOWN);
        due("lease 3", court.arrears(3, 0), LOST_UNKNOWN);
        due("lease 3, outside too", court.arrears(3, -1), LOST_UNKNOWN);
        due("day -1", court.arrears(0, -1), LOST_OUTSIDE);
        due("day 3600", court.arrears(0, 3600), LOST_OUTSIDE);
        due("ahead of it", court.arrears(0, 99), 0);
        due("with its day", court.arrears(0, 100), 40);
        due("a year less a day", court.arrears(0, 459), 40);
        due("a year", court.arrears(0, 460), 80);
        due("two years", court.arrears(0, 820), 120);
        due("as many times as years", court.arrears(0, 1180), 120);
        due("on the last day", court.arrears(0, 3599), 120);
        due("of a void one", court.arrears(1, 3599), 0);
        due("of one beyond the last day", court.arrears(2, 3599), 10000);
        court.receive(99, 5, 0);
        court.receive(460, 50, 0);
        court.receive(460, 7, -1);
        court.receive(460, 3, 2);
        court.receive(0, 8, 1);
        court.pay(460, 9, -1);
        due("had ahead of it", court.arrears(0, 99), -5);
        due("the day ahead", court.arrears(0, 459), 35);
        due("had on the day", court.arrears(0, 460), 25);
        due("had of another", court.arrears(2, 460), 1997);
        due("had of a void one", court.arrears(1, 0), -8);
        court.law(0, 21, 0, 0, 0, 4);
        due("void no more", court.arrears(1, 0), 992);
        court.law(100, 21, 0, 0, 0, 2);
        due("void by now", court.arrears(0, 3599), -55);
    }

    private static void pot() {
        CHECKS.part("promise 18");
        WardCourt court = courtWithoutInterest();
        due("day -1", court.pot(-1), LOST_OUTSIDE);
        due("day 3600", court.pot(3600), LOST_OUTSIDE);
        court.receive(10, 100, -1);
        court.pay(10, 30, -1);
        court.pay(20, 50, -1);
        court.pay(20, 50, -1);
        court.pay(30, 51, -1);
        due("ahead of all", court.pot(9), 0);
        due("as the day ends", court.pot(10), 70);
        due("pot(19)", court.pot(19), 70);
        due("below 0", court.pot(20), -30);
        due("barred payments stay in", court.pot(30), -30);
        due("the next year", court.pot(360), -30);
        due("the last day", court.pot(3599), -30);
        court.receive(360, 40, -1);
        due("ahead of a late receipt", court.pot(359), -30);
        due("with it", court.pot(360), 10);
        court.ward(-7560 + 361);
        due("ahead of a giving over", court.pot(360), 10);
        due("given over", court.pot(361), 0);
        court.receive(359, 5, -1);
        due("on the last day of a year", court.pot(359), -25);
        due("pot(360)", court.pot(360), 15);
    }

    private static void interest() {
        CHECKS.part("promises 18 and 19, interest");
        WardCourt court = new WardCourt();
        court.receive(0, 200, -1);
        due("the day ahead of the year's end", court.pot(358), 200);
        due("100 idle at 5 for a year", court.pot(359), 205);
        court.law(0, 21, 200, 5, 50, 3);
        due("nothing above IDLE", court.pot(359), 200);
        court.law(0, 21, 199, 100, 50, 3);
        due("one above IDLE", court.pot(359), 201);
        court.law(0, 21, 200, 100, 50, 3);
        court.law(359, 21, 0, 100, 50, 3);
        due("a day's 20000 is cut, and forgotten", court.pot(359), 200);
        due("a whole year", court.pot(719), 400);
        court.law(358, 21, 0, 100, 50, 3);
        due("two days' 40000 is cut to 1", court.pot(359), 201);
        court.pay(359, 20, -1);
        due("items of a day come ahead of its count", court.pot(359), 181);
        account(court, 0, 0, 200, 20, 0, 1, 181);

        WardCourt close = new WardCourt();
        close.law(0, 21, 10000, 100, 50, 3);
        close.law(358, 21, 9641, 100, 50, 3);
        close.law(359, 21, 9901, 1, 50, 3);
        close.receive(0, 10000, -1);
        due("35999 counted", close.account(0, 4), 0);
        close.law(359, 21, 9900, 1, 50, 3);
        due("36000 counted", close.account(0, 4), 1);

        WardCourt given = new WardCourt();
        given.law(0, 21, 0, 100, 50, 3);
        given.receive(0, 100, -1);
        given.ward(-7560 + 180);
        due("shares of a day go ahead of its count", given.pot(359), 50);
        due("the share", given.about(0, 4), 100);
        account(given, 0, 0, 100, 0, 100, 50, 50);
        account(given, 1, 50, 0, 0, 0, 50, 100);

        WardCourt poor = new WardCourt();
        poor.law(0, 21, 0, 100, 10000, 3);
        poor.pay(0, 10000, -1);
        due("no interest below 0", poor.pot(3599), -10000);

        WardCourt rich = new WardCourt();
        rich.law(0, 21, 0, 100, 0, 0);
        for (int n = 0; n < 60; n++) {
            rich.receive(0, 10000, -1);
        }
        due("doubled in the first year", rich.pot(359), 1200000);
        due("doubled ten times", rich.pot(3599), 614400000);
    }

    private static void account() {
        CHECKS.part("promise 19");
        WardCourt court = courtWithoutInterest();
        due("year -1", court.account(-1, 0), LOST_UNKNOWN);
        due("year 10", court.account(10, 0), LOST_UNKNOWN);
        due("year 10, outside too", court.account(10, 6), LOST_UNKNOWN);
        due("account(0, -1)", court.account(0, -1), LOST_OUTSIDE);
        due("account(0, 6)", court.account(0, 6), LOST_OUTSIDE);
        court.receive(359, 100, -1);
        court.receive(360, 1000, -1);
        court.pay(719, 40, -1);
        court.pay(720, 50, -1);
        court.pay(720, 51, -1);
        court.ward(-7560 + 1080);
        court.ward(3599);
        account(court, 0, 0, 100, 0, 0, 0, 100);
        account(court, 1, 100, 1000, 40, 0, 0, 1060);
        account(court, 2, 1060, 0, 50, 0, 0, 1010);
        account(court, 3, 1010, 0, 0, 1010, 0, 0);
        account(court, 9, 0, 0, 0, 0, 0, 0);
        court.law(720, 21, 0, 10, 51, 3);
        account(court, 2, 1060, 0, 101, 0, 95, 1054);
        account(court, 3, 1054, 0, 0, 1054, 0, 0);
        court.receive(3599, 7, -1);
        account(court, 9, 0, 7, 0, 0, 0, 7);
    }

    private static void pass() {
        CHECKS.part("promise 20");
        WardCourt court = courtWithoutInterest();
        due("year -1", court.pass(-1), LOST_UNKNOWN);
        due("year 10", court.pass(10), LOST_UNKNOWN);
        due("told(5) after refusals", court.told(5), 0);
        court.receive(5, 100, -1);
        court.receive(3599, 11, -1);
        due("the first year", court.pass(0), 100);
        due("the last year", court.pass(9), 111);
        due("told(5)", court.told(5), 513);
        court.receive(6, 10, -1);
        due("open()", court.open(), 1);
        due("passed again", court.pass(0), 110);
        due("open()", court.open(), 0);
        due("passed(0, 1)", court.passed(0, 1), 110);
        due("passed(9, 0)", court.passed(9, 0), 100);
        due("told(5)", court.told(5), 513);
    }

    private static void passed() {
        CHECKS.part("promise 21");
        WardCourt court = new WardCourt();
        due("year -1", court.passed(-1, 0), LOST_UNKNOWN);
        due("year 10", court.passed(10, 0), LOST_UNKNOWN);
        due("year 10, outside too", court.passed(10, 6), LOST_UNKNOWN);
        due("passed(0, -1)", court.passed(0, -1), LOST_OUTSIDE);
        due("passed(0, 6), and it was not", court.passed(0, 6), LOST_OUTSIDE);
        due("it was not", court.passed(0, 0), LOST_STATE);
        court.receive(0, 1100, -1);
        court.pay(360, 50, -1);
        court.ward(-7560 + 719);
        court.ward(0);
        court.pass(1);
        due("another year was not", court.passed(0, 0), LOST_STATE);
        passedIs(court, 1, 1150, 0, 50, 550, 49, 599);
        court.receive(360, 10000, -1);
        court.law(0, 30, 0, 0, 0, 0);
        account(court, 1, 1100, 10000, 0, 0, 0, 11100);
        passedIs(court, 1, 1150, 0, 50, 550, 49, 599);
        due("passed(1, 6)", court.passed(1, 6), LOST_OUTSIDE);
    }

    private static void passedIs(WardCourt court, int year, int... want) {
        for (int what = 0; what < want.length; what++) {
            due("passed(" + year + ", " + what + ")", court.passed(year, what), want[what]);
        }
    }

    private static void open() {
        CHECKS.part("promise 22");
        WardCourt court = courtWithoutInterest();
        court.receive(0, 100, -1);
        court.receive(3599, 100, -1);
        court.pay(400, 50, -1);
        court.receive(0, 9, -1);
        due("none was passed", court.open(), 0);
        for (int year = 0; year < 10; year++) {
            court.pass(year);
        }
        due("nothing was told since", court.open(), 0);
        court.receive(719, 1, -1);
        due("by receipts, and not those where only the pot is another", court.open(), 2);
        court.pass(1);
        due("that year passed again", court.open(), 0);
        court.challenge(2, true);
        due("by payments", court.open(), 2);
        court.challenge(2, false);
        due("as it was", court.open(), 0);
        court.ward(-7560 + 1080);
        due("by what is given over", court.open(), 8);
        court.dies(0, 1080);
        due("not given over", court.open(), 0);
        court.law(3240, 21, 0, 10, 50, 3);
        due("by interest of the last year", court.open(), 512);
        court.law(3240, 21, 0, 0, 50, 3);
        due("no interest", court.open(), 0);
        court.receive(720, 1, -1);
        court.pay(720, 1, -1);
        due("both moved, the pot is the same", court.open(), 4);

        WardCourt late = new WardCourt();
        late.pass(0);
        late.receive(360, 5, -1);
        due("a year that was not passed", late.open(), 0);
    }

    private static void told() {
        CHECKS.part("promise 23");
        WardCourt court = new WardCourt();
        due("told(-1)", court.told(-1), -2);
        due("told(6)", court.told(6), -2);
        court.law(0, 21, 0, 0, 0, 0);
        told(court, 1, 0, 0, 0, 0, 0);
        court.ward(0);
        court.ward(0);
        told(court, 1, 2, 0, 0, 0, 0);
        for (int n = 0; n < 3; n++) {
            court.leave(1);
        }
        told(court, 1, 2, 3, 0, 0, 0);
        court.receive(0, 1, -1);
        court.pay(0, 1, -1);
        court.pay(0, 1, 0);
        court.pay(0, 1, 0);
        court.receive(1, 1, -1);
        told(court, 1, 2, 3, 4, 0, 0);
        court.let(0, 9, 1, -1);
        court.let(0, 1, 1, 1);
        told(court, 1, 2, 3, 4, 2, 0);
        court.pass(1);
        court.pass(4);
        court.pass(1);
        told(court, 1, 2, 3, 4, 2, 18);
    }
}
