/** Promises 16 to 20. */
public final class DaysAndFeesTest {
    public static void main(String[] args) {
        promise16PassRanges();
        promise16PassCountsArrivals();
        promise16InOneCallOrInMany();
        promise17Today();
        promise18OwesRanges();
        promise18LoanFee();
        promise18BothWays();
        promise19Settle();
        promise19EvenPairs();
        promise20QuotaRanges();
        promise20SmallHouse();
        promise20Quarter();
        promise20HouseThatGrows();
        Check.finish();
    }

    private static void promise16PassRanges() {
        UnionList list = new UnionList();
        int[] bad = {0, -1, 101, Integer.MIN_VALUE, Integer.MAX_VALUE};
        for (int days : bad) {
            Check.badArgument("days " + days, () -> list.pass(days));
        }
        Check.equal("day", list.today(), 0);
        Check.equal("1", list.pass(1), 0);
        Check.equal("100", list.pass(100), 0);
        Check.equal("day", list.today(), 101);
    }

    private static void promise16PassCountsArrivals() {
        UnionList list = new UnionList();
        list.addCopy(2, 0);
        list.addCopy(0, 1);
        Check.equal("message of home 0", list.pass(1), 1);
        Check.equal("nothing", list.pass(1), 0);
        Check.equal("message of home 2", list.pass(1), 1);
        list.request(5, 0);
        Check.equal("the question", list.pass(4), 1);
        Check.equal("the message that it was sent away", list.pass(3), 1);
        Check.equal("the copy", list.pass(1), 1);
        list.renew(0);
        list.renew(0);
        list.recall(0);
        list.sendBack(0);
        Check.equal("nothing before", list.pass(3), 0);
        Check.equal("renewals, recall and copy", list.pass(1), 4);
        Check.equal("the message that it is free", list.pass(3), 1);
        Check.equal("nothing more", list.pass(100), 0);
    }

    private static void promise16InOneCallOrInMany() {
        UnionList list = new UnionList();
        list.addCopy(3, 0);
        list.pass(4);
        list.request(0, 0);
        Check.equal("question, copy and message", list.pass(100), 3);
        Check.equal("lent on day 12", list.due(0), 32);
    }

    private static void promise17Today() {
        UnionList list = new UnionList();
        int day = 0;
        Check.equal("day", list.today(), day);
        for (int days = 1; days <= 100; days += 9) {
            list.pass(days);
            day += days;
            Check.equal("day", list.today(), day);
        }
    }

    private static void promise18OwesRanges() {
        UnionList list = new UnionList();
        int[] bad = {-1, 6, Integer.MIN_VALUE, Integer.MAX_VALUE};
        for (int house : bad) {
            Check.badArgument("house " + house, () -> list.owes(house, 0));
            Check.badArgument("other " + house, () -> list.owes(0, house));
            Check.badArgument("both " + house, () -> list.owes(house, house));
        }
        Check.equal("a house and itself", list.owes(5, 5), 0);
    }

    /** House 3 has three copies of its own, so that it owes for each loan. */
    private static UnionList withBigHouse() {
        UnionList list = new UnionList();
        for (int i = 0; i < 3; i++) {
            list.addCopy(3, 7);
        }
        return list;
    }

    private static void promise18LoanFee() {
        UnionList list = withBigHouse();
        list.addCopy(1, 0);
        list.pass(5);
        list.request(3, 0);
        list.pass(5);
        Check.equal("nothing before it arrives", list.owes(3, 1), 0);
        list.pass(1);
        Check.equal("6 for the loan", list.owes(3, 1), 6);
        Check.equal("seen from the home", list.owes(1, 3), -6);
        Check.equal("not another house", list.owes(3, 2), 0);
        Check.equal("no quota", list.quota(3), 0);
    }

    private static void promise18BothWays() {
        UnionList list = withBigHouse();
        for (int i = 0; i < 3; i++) {
            list.addCopy(1, i);
        }
        list.pass(5);
        list.request(3, 0);
        list.request(3, 1);
        list.request(1, 7);
        list.pass(6);
        Check.equal("12 less 6", list.owes(3, 1), 6);
        Check.equal("6 less 12", list.owes(1, 3), -6);
        list.harm(list.copyOf(2));
        list.look(list.copyOf(2));
        Check.equal("less 30 for the harm", list.owes(3, 1), -24);
        list.pass(list.due(0) - list.today() + 7);
        list.sendBack(0);
        Check.equal("and 7 for being late", list.owes(3, 1), -17);
    }

    private static void promise19Settle() {
        UnionList list = withBigHouse();
        list.addCopy(1, 0);
        list.addCopy(2, 1);
        list.addCopy(4, 2);
        list.pass(5);
        list.request(3, 0);
        list.request(3, 1);
        list.request(3, 2);
        list.pass(6);
        Check.equal("three pairs", list.settle(), 3);
        Check.equal("none is left", list.settle(), 0);
        for (int house = 0; house < 6; house++) {
            Check.equal("settled", list.owes(3, house), 0);
        }
        list.pass(list.due(0) - list.today() + 1);
        list.sendBack(0);
        Check.equal("what comes later counts anew", list.owes(3, 1), 1);
        Check.equal("one pair", list.settle(), 1);
    }

    private static void promise19EvenPairs() {
        UnionList list = withBigHouse();
        for (int i = 0; i < 3; i++) {
            list.addCopy(1, i);
        }
        list.pass(5);
        list.request(3, 0);
        list.request(1, 7);
        list.pass(6);
        Check.equal("even", list.owes(3, 1), 0);
        Check.equal("an even pair owes nothing", list.settle(), 0);
        list.pass(40);
        Check.equal("late", list.sendBack(0) > 0, true);
        Check.equal("one pair", list.settle(), 1);
    }

    private static void promise20QuotaRanges() {
        UnionList list = new UnionList();
        int[] bad = {-1, 6, Integer.MIN_VALUE, Integer.MAX_VALUE};
        for (int house : bad) {
            Check.badArgument("house " + house, () -> list.quota(house));
        }
        Check.equal("house 5", list.quota(5), 0);
    }

    private static void promise20SmallHouse() {
        for (int own = 0; own < 4; own++) {
            UnionList list = new UnionList();
            for (int i = 0; i < own; i++) {
                list.addCopy(4, 7);
            }
            for (int title = 0; title < 3; title++) {
                list.addCopy(5, title);
            }
            list.pass(6);
            for (int loans = 1; loans <= 3; loans++) {
                list.request(4, loans - 1);
                list.pass(4);
                int free = own > 2 ? 0 : Math.min(2, loans);
                Check.equal("quota of a house with " + own, list.quota(4), free);
                Check.equal("fees of a house with " + own, list.owes(4, 5), 6 * (loans - free));
            }
            Check.equal("the home's quota", list.quota(5), 0);
            list.settle();
            Check.equal("settling leaves the quota", list.quota(4), own > 2 ? 0 : 2);
        }
    }

    /** Loans of the copies of titles 0 to 2 at home 1 by house 0, the first of them on a day. */
    private static UnionList loansOnDay(int day) {
        UnionList list = new UnionList();
        for (int title = 0; title < 5; title++) {
            list.addCopy(1, title);
        }
        list.pass(day - 4);
        list.request(0, 0);
        list.request(0, 1);
        list.request(0, 2);
        list.pass(4);
        return list;
    }

    private static void promise20Quarter() {
        UnionList last = loansOnDay(89);
        Check.equal("last day of the quarter", last.quota(0), 2);
        Check.equal("the third is paid", last.owes(0, 1), 6);
        last.request(0, 3);
        last.pass(1);
        Check.equal("a new quarter", last.quota(0), 0);
        Check.equal("debts stay", last.owes(0, 1), 6);
        last.pass(3);
        Check.equal("one of the new quarter", last.quota(0), 1);
        Check.equal("free again", last.owes(0, 1), 6);

        UnionList first = loansOnDay(90);
        Check.equal("first day of the quarter", first.quota(0), 2);
        first.pass(89);
        Check.equal("its last day", first.quota(0), 2);
        first.pass(1);
        Check.equal("the next quarter", first.quota(0), 0);

        UnionList leap = loansOnDay(50);
        leap.pass(100);
        Check.equal("over the end in one call", leap.quota(0), 0);
    }

    private static void promise20HouseThatGrows() {
        UnionList list = new UnionList();
        list.addCopy(2, 0);
        list.addCopy(2, 1);
        list.addCopy(4, 7);
        list.addCopy(4, 7);
        list.pass(5);
        list.request(4, 0);
        list.pass(6);
        Check.equal("free with two of its own", list.quota(4), 1);
        list.request(4, 1);
        list.pass(5);
        list.addCopy(4, 7);
        list.pass(1);
        Check.equal("by then it has three", list.owes(4, 2), 6);
        Check.equal("the first stays free", list.quota(4), 1);
    }
}
