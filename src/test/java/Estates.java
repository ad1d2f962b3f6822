import java.util.ArrayList;
import java.util.List;

/**
 * Courts that were told nothing, something, or all that they can hold; and all
 * that such a court answers. Telling, going on and answering stay together
 * under the 512 calls for which an object is used.
 */
enum Estates {
    NEW(0, 0, 0, 0, 0),
    SOME(2, 3, 4, 9, 3),
    FULL(8, 6, 10, 60, 10);

    private static final int[] DAYS = {0, 60, 359, 360, 700, 2000, 3001, 3599};

    final int laws;
    final int wards;
    final int leaves;
    final int items;
    final int leases;

    Estates(int laws, int wards, int leaves, int items, int leases) {
        this.laws = laws;
        this.wards = wards;
        this.leaves = leaves;
        this.items = items;
        this.leases = leases;
    }

    WardCourt court() {
        WardCourt court = new WardCourt();
        if (this != NEW) {
            tellSome(court);
        }
        if (this == FULL) {
            tellTheRest(court);
        }
        return court;
    }

    /** Leaves 0 and 1 are used, 2 and 3 are not; item 0 is a receipt, item 3 a payment; years 0 and 3 are passed. */
    private static void tellSome(WardCourt court) {
        court.law(100, 20, 50, 10, 60, 4);
        court.law(2000, 22, 0, 20, 40, 2);
        court.ward(-7000);
        court.ward(-6900);
        court.ward(0);
        court.dies(2, 3000);
        court.leave(500);
        court.leave(5);
        court.leave(70);
        court.leave(6);
        court.let(0, 3, 10, -1);
        court.let(50, 5, 20, 1);
        court.let(10, 9, 5, -1);
        court.receive(10, 1000, -1);
        court.receive(400, 500, 0);
        court.receive(60, 20, 1);
        court.pay(50, 40, -1);
        court.pay(60, 80, -1);
        court.pay(700, 400, 0);
        court.pay(800, 30, -1);
        court.pay(900, 20, -1);
        court.challenge(6, true);
        court.challenge(7, true);
        court.vouch(7, true);
        court.pass(0);
        court.pass(3);
        court.receive(300, 200, -1);
    }

    private static void tellTheRest(WardCourt court) {
        for (int n = SOME.laws; n < FULL.laws; n++) {
            court.law(3000 + n, 21, n, n, n, n);
        }
        for (int n = SOME.wards; n < FULL.wards; n++) {
            court.ward(500 * n);
        }
        for (int n = SOME.leaves; n < FULL.leaves; n++) {
            court.leave(100 + n);
        }
        for (int n = SOME.leases; n < FULL.leases; n++) {
            court.let(20 * n, 1, n, -1);
        }
        for (int n = SOME.items; n < FULL.items; n++) {
            if (n % 2 == 0) {
                court.receive(60 * n, 10 * n, n % 10);
            } else {
                court.pay(60 * n, n, -1);
            }
        }
    }

    /** Tells more, so that what a refused call left behind unseen would be seen; the answers of it. */
    static List<Integer> goOn(WardCourt court) {
        List<Integer> answers = new ArrayList<>();
        answers.add(court.law(1500, 19, 10, 30, 55, 3));
        answers.add(court.ward(-6000));
        answers.add(court.leave(45));
        answers.add(court.receive(1600, 333, 0));
        answers.add(court.receive(1600, 444, -1));
        answers.add(court.pay(1601, 44, 2));
        answers.add(court.pay(1602, 44, -1));
        answers.add(court.let(1603, 6, 9, 3));
        answers.add(court.let(1604, 2, 9, -1));
        answers.add(court.dies(0, 3500));
        answers.add(court.dies(2, -1));
        answers.add(court.pass(5));
        for (int item = 0; item < FULL.items; item++) {
            answers.add(court.challenge(item, item % 2 == 0));
        }
        return answers;
    }

    static List<Integer> answers(WardCourt court) {
        List<Integer> answers = new ArrayList<>();
        for (int what = 0; what < 6; what++) {
            answers.add(court.told(what));
        }
        answers.add(court.open());
        for (int year = 0; year < 10; year++) {
            for (int what = 0; what < 6; what++) {
                answers.add(court.account(year, what));
                answers.add(court.passed(year, what));
            }
        }
        for (int ward = 0; ward < FULL.wards; ward++) {
            for (int what = 0; what < 5; what++) {
                answers.add(court.about(ward, what));
            }
        }
        for (int each = 0; each < 10; each++) {
            answers.add(court.ofLeave(each, 0));
            answers.add(court.ofLeave(each, 1));
            answers.add(court.isVoid(each));
            answers.add(court.arrears(each, 3599));
        }
        for (int item = 0; item < FULL.items; item++) {
            answers.add(court.barred(item));
        }
        for (int day : DAYS) {
            answers.add(court.pot(day));
            answers.add(court.heads(day));
            for (int what = 0; what < 5; what++) {
                answers.add(court.force(day, what));
            }
        }
        return answers;
    }
}
