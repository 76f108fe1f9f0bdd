/** The sentences of "Terms" on loans: due days, renewals, recalls and the way back, at their edges. */
public final class LoansTest {
    public static void main(String[] args) {
        dueBehindTheDayOfArrival();
        dueWhenManyDaysPassedAtOnce();
        renewalArrivesBehindTheWay();
        eachRenewalCounts();
        renewalOfALateLoan();
        renewalThatArrivesWhenGoingBack();
        renewalThatArrivesWhenOver();
        renewalOfOneLoanIsNotOfTheNext();
        renewalJustAheadOfTheRecall();
        renewalArrivedBeforeTheRecallWasSent();
        renewalSentOnTheDayOfTheRecall();
        renewalBehindTheRecall();
        recallArrivesBehindTheWay();
        recallOfWhatIsDueAtItsEdge();
        recallOfALateLoan();
        recallThatArrivesWhenNoLoan();
        recallOfOneLoanIsNotOfTheNext();
        sentBackOnTheDayOfArrival();
        sentBackAroundTheDueDay();
        sentBackAroundARenewedDay();
        sentBackAroundARecalledDay();
        lookedAtWhenItArrivesAtHome();
        Check.finish();
    }

    /** "A loan is due 20 days behind the day of its arrival." */
    private static void dueBehindTheDayOfArrival() {
        UnionList list = Scenes.coming();
        list.pass(Scenes.WAY - 1);
        Check.badState("a day before it arrives", () -> list.due(0));
        list.pass(1);
        Check.equal("on the day", list.due(0), Scenes.LENT_ON + 20);
        list.pass(1);
        Check.equal("a day later it is the same", list.due(0), Scenes.LENT_ON + 20);
        list.pass(100);
        Check.equal("long behind it is the same", list.due(0), Scenes.LENT_ON + 20);
    }

    private static void dueWhenManyDaysPassedAtOnce() {
        UnionList list = Scenes.asking();
        list.pass(100);
        Check.equal("from the day of its arrival, not from today", list.due(0), Scenes.DUE_ON);
    }

    // ---- "When a renewal arrives, the loan is due 20 days later than it was"

    private static void renewalArrivesBehindTheWay() {
        UnionList list = Scenes.lent();
        Check.equal("the day of its arrival", list.renew(0), Scenes.LENT_ON + Scenes.WAY);
        Check.equal("not at once", list.due(0), Scenes.DUE_ON);
        list.pass(Scenes.WAY - 1);
        Check.equal("not a day before", list.due(0), Scenes.DUE_ON);
        list.pass(1);
        Check.equal("on the day", list.due(0), Scenes.DUE_ON + 20);
        list.pass(100);
        Check.equal("once", list.due(0), Scenes.DUE_ON + 20);
    }

    private static void eachRenewalCounts() {
        UnionList list = Scenes.lent();
        list.renew(0);
        list.renew(0);
        list.pass(1);
        Check.equal("the day of the third", list.renew(0), Scenes.LENT_ON + 1 + Scenes.WAY);
        list.pass(2);
        Check.equal("two have arrived", list.due(0), Scenes.DUE_ON + 40);
        list.pass(1);
        Check.equal("three have", list.due(0), Scenes.DUE_ON + 60);
    }

    private static void renewalOfALateLoan() {
        UnionList list = Scenes.lent();
        Scenes.waitUntil(list, Scenes.DUE_ON + 30);
        list.renew(0);
        list.pass(Scenes.WAY);
        Check.equal("later than it was, not than the day", list.due(0), Scenes.DUE_ON + 20);
        Check.equal("late all the same", list.sendBack(0), 30 + Scenes.WAY - 20);
    }

    // ---- "if it is still a loan"

    private static void renewalThatArrivesWhenGoingBack() {
        UnionList list = Scenes.lentAndQuiet();
        list.renew(0);
        list.pass(1);
        list.sendBack(0);
        Check.equal("the renewal", list.pass(2), 1);
        Check.equal("going back", list.state(0), UnionList.GOING_BACK);
        Check.badState("no loan", () -> list.due(0));
    }

    private static void renewalThatArrivesWhenOver() {
        UnionList list = Scenes.lentAndQuiet();
        list.sendBack(0);
        list.pass(Scenes.WAY);
        Check.equal("over", list.state(0), UnionList.OVER);
        Check.badState("none can be sent", () -> list.renew(0));
        Check.badState("nor a recall", () -> list.recall(0));
    }

    private static void renewalOfOneLoanIsNotOfTheNext() {
        UnionList list = new UnionList();
        list.addCopy(0, 0);
        list.pass(1);
        list.request(5, 0);
        list.request(1, 0);
        list.pass(2);
        list.pass(2);
        Check.equal("house 1 has it", list.state(1), UnionList.LOAN);
        for (int i = 0; i < 3; i++) {
            list.renew(1);
        }
        list.sendBack(1);
        list.pass(2);
        Check.equal("home again", list.state(1), UnionList.OVER);
        list.pass(1);
        list.request(1, 0);
        list.pass(4);
        Check.equal("a loan of its own", list.due(2), list.today() + 20);
    }

    // ---- "and no recall of it was sent so far"

    private static void renewalJustAheadOfTheRecall() {
        UnionList list = Scenes.lent();
        list.renew(0);
        list.pass(Scenes.WAY - 1);
        list.recall(0);
        list.pass(1);
        Check.equal("sent a day before the renewal arrives", list.due(0), Scenes.DUE_ON);
    }

    private static void renewalArrivedBeforeTheRecallWasSent() {
        UnionList list = Scenes.lent();
        list.renew(0);
        list.pass(Scenes.WAY);
        list.recall(0);
        Check.equal("on the day of the recall the renewal counts", list.due(0), Scenes.DUE_ON + 20);
        list.pass(Scenes.WAY);
        Check.equal("until the recall arrives", list.due(0), Scenes.LENT_ON + 2 * Scenes.WAY + 5);
    }

    private static void renewalSentOnTheDayOfTheRecall() {
        UnionList before = Scenes.lent();
        before.renew(0);
        before.recall(0);
        before.pass(Scenes.WAY);
        Check.equal("renewal before recall", before.due(0), Scenes.LENT_ON + Scenes.WAY + 5);
        UnionList behind = Scenes.lent();
        behind.recall(0);
        behind.renew(0);
        behind.pass(Scenes.WAY);
        Check.equal("recall before renewal", behind.due(0), Scenes.LENT_ON + Scenes.WAY + 5);
    }

    private static void renewalBehindTheRecall() {
        UnionList list = Scenes.lent();
        list.recall(0);
        list.pass(Scenes.WAY);
        list.renew(0);
        Check.equal("it arrives", list.pass(Scenes.WAY), 1);
        Check.equal("and changes nothing", list.due(0), Scenes.LENT_ON + Scenes.WAY + 5);
    }

    // ---- "When a recall arrives, the loan is due 5 days behind that day, if it was due later."

    private static void recallArrivesBehindTheWay() {
        UnionList list = Scenes.lent();
        Check.equal("the day of its arrival", list.recall(0), Scenes.LENT_ON + Scenes.WAY);
        Check.equal("not at once", list.due(0), Scenes.DUE_ON);
        list.pass(Scenes.WAY - 1);
        Check.equal("not a day before", list.due(0), Scenes.DUE_ON);
        list.pass(1);
        Check.equal("on the day", list.due(0), Scenes.LENT_ON + Scenes.WAY + 5);
        list.pass(100);
        Check.equal("once", list.due(0), Scenes.LENT_ON + Scenes.WAY + 5);
    }

    /** The recall arrives 4, 5, 6 and 7 days before the due day. */
    private static void recallOfWhatIsDueAtItsEdge() {
        for (int ahead = 4; ahead <= 7; ahead++) {
            UnionList list = Scenes.lent();
            Scenes.waitUntil(list, Scenes.DUE_ON - ahead - Scenes.WAY);
            Check.equal("arrives " + ahead + " days ahead", list.recall(0), Scenes.DUE_ON - ahead);
            list.pass(Scenes.WAY);
            Check.equal("due when recalled " + ahead + " days ahead", list.due(0),
                    ahead > 5 ? Scenes.DUE_ON - ahead + 5 : Scenes.DUE_ON);
        }
    }

    private static void recallOfALateLoan() {
        UnionList list = Scenes.lent();
        Scenes.waitUntil(list, Scenes.DUE_ON + 9);
        list.recall(0);
        list.pass(Scenes.WAY);
        Check.equal("it isn't due later by it", list.due(0), Scenes.DUE_ON);
        Check.equal("late", list.sendBack(0), 9 + Scenes.WAY);
    }

    private static void recallThatArrivesWhenNoLoan() {
        UnionList list = Scenes.lentAndQuiet();
        list.recall(0);
        list.pass(1);
        list.sendBack(0);
        Check.equal("the recall", list.pass(2), 1);
        Check.equal("going back all the same", list.state(0), UnionList.GOING_BACK);
        Check.equal("nothing is owed for it", list.owes(Scenes.HOUSE, Scenes.HOME), 0);
        list.pass(1);
        Check.equal("over", list.state(0), UnionList.OVER);
    }

    private static void recallOfOneLoanIsNotOfTheNext() {
        UnionList list = Scenes.lentAndQuiet();
        list.recall(0);
        list.sendBack(0);
        list.pass(Scenes.WAY + Scenes.WAY_TO_LIST);
        list.request(Scenes.HOUSE, 0);
        list.pass(2 * Scenes.WAY);
        Check.equal("a loan of its own", list.due(1), list.today() + 20);
        Check.equal("can be renewed", list.renew(1), list.today() + Scenes.WAY);
        list.pass(Scenes.WAY);
        Check.equal("with effect", list.due(1), list.today() - Scenes.WAY + 40);
        Check.equal("and recalled", list.recall(1), list.today() + Scenes.WAY);
    }

    // ---- "The house sends the copy back"; "For each day that a copy is sent back later than due the house owes 1."

    private static void sentBackOnTheDayOfArrival() {
        UnionList list = Scenes.lent();
        Check.equal("not late", list.sendBack(0), 0);
        Check.equal("owes nothing", list.owes(Scenes.HOUSE, Scenes.HOME), 0);
        list.pass(Scenes.WAY);
        Check.equal("home", list.isFree(0), true);
    }

    private static void sentBackAroundTheDueDay() {
        int[] behind = {-20, -1, 0, 1, 2, 100};
        for (int days : behind) {
            UnionList list = Scenes.lent();
            Scenes.waitUntil(list, Scenes.DUE_ON + days);
            lateBy(list, days < 0 ? 0 : days);
        }
    }

    private static void lateBy(UnionList list, int late) {
        Check.equal("owes nothing before it is sent back", list.owes(Scenes.HOUSE, Scenes.HOME), 0);
        Check.equal("days late", list.sendBack(0), late);
        Check.equal("1 for each", list.owes(Scenes.HOUSE, Scenes.HOME), late);
        Check.equal("seen from the home", list.owes(Scenes.HOME, Scenes.HOUSE), -late);
        list.pass(10);
        Check.equal("its way home costs nothing", list.owes(Scenes.HOUSE, Scenes.HOME), late);
    }

    private static void sentBackAroundARenewedDay() {
        for (int days = -1; days <= 1; days++) {
            UnionList list = Scenes.lent();
            list.renew(0);
            Scenes.waitUntil(list, Scenes.DUE_ON + 20 + days);
            lateBy(list, days < 0 ? 0 : days);
        }
    }

    private static void sentBackAroundARecalledDay() {
        for (int days = -1; days <= 1; days++) {
            UnionList list = Scenes.lent();
            list.recall(0);
            Scenes.waitUntil(list, Scenes.LENT_ON + Scenes.WAY + 5 + days);
            lateBy(list, days < 0 ? 0 : days);
        }
    }

    /** "it is looked at when it arrives at home": not before, and when it arrives. */
    private static void lookedAtWhenItArrivesAtHome() {
        UnionList list = Scenes.lentAndQuiet();
        list.harm(0);
        list.sendBack(0);
        list.pass(Scenes.WAY - 1);
        Check.equal("a day before", list.owes(Scenes.HOUSE, Scenes.HOME), 0);
        list.pass(1);
        Check.equal("on the day", list.owes(Scenes.HOUSE, Scenes.HOME), 30);
        Check.equal("not free", list.isFree(0), false);
        Check.equal("nothing new to be seen", list.look(0), -1);
        Check.equal("over", list.state(0), UnionList.OVER);
    }
}
