/** "An object is used for at most 512 calls after it has been made": the longest runs that this leaves. */
public final class FullRoomsTest {
    private static final int CALLS = 512;

    public static void main(String[] args) {
        everyCallLetsDaysPass();
        everyCallARenewal();
        renewalsOfManyLoans();
        everyCopyAndRequestAtOnce();
        everyCopyMendedAgainAndAgain();
        debtOfTheLongestDelay();
        refusedCallsToTheEnd();
        Check.finish();
    }

    private static void everyCallLetsDaysPass() {
        UnionList list = new UnionList();
        for (int call = 1; call < CALLS; call++) {
            Check.equal("nothing arrives", list.pass(100), 0);
        }
        Check.equal("the last day that can be seen", list.today(), (CALLS - 1) * 100);
    }

    /** 6 calls for the loan, due ahead of the renewals, pass and due behind them. */
    private static void everyCallARenewal() {
        UnionList list = Scenes.lentAndQuiet();
        int due = list.due(0);
        int renewals = CALLS - 9;
        for (int i = 0; i < renewals; i++) {
            Check.equal("each arrives on the same day", list.renew(0), Scenes.LENT_ON + 1 + Scenes.WAY);
        }
        Check.equal("all arrive", list.pass(Scenes.WAY), renewals);
        Check.equal("all count", list.due(0), due + 20 * renewals);
    }

    private static void renewalsOfManyLoans() {
        UnionList list = new UnionList();
        for (int copy = 0; copy < 20; copy++) {
            list.addCopy(0, copy % 8);
        }
        list.pass(1);
        for (int request = 0; request < 20; request++) {
            list.request(5, request % 8);
            list.pass(6);
            list.pass(6);
        }
        int lent = 0;
        for (int request = 0; request < 20; request++) {
            lent += list.state(request) == UnionList.LOAN ? 1 : 0;
        }
        Check.equal("every copy is lent", lent, 20);
        int arrival = list.today() + 6;
        int sent = 0;
        for (int i = 0; i < 380; i++) {
            Check.equal("the day of each", list.renew(i % 20), arrival);
            sent++;
        }
        for (int request = 0; request < 20; request++) {
            list.sendBack(request);
            sent++;
        }
        Check.equal("renewals and copies", list.pass(6), sent);
        Check.equal("their messages", list.pass(1), 20);
    }

    private static void everyCopyAndRequestAtOnce() {
        UnionList list = new UnionList();
        for (int copy = 0; copy < 20; copy++) {
            list.addCopy(copy % 2 * 5, copy % 8);
        }
        Check.equal("the messages", list.pass(6), 20);
        for (int request = 0; request < 40; request++) {
            list.request(request % 2 == 0 ? 2 : 3, request % 8);
        }
        int arrived = list.pass(100);
        int lent = 0;
        int failed = 0;
        for (int request = 0; request < 40; request++) {
            lent += list.state(request) == UnionList.LOAN ? 1 : 0;
            failed += list.state(request) == UnionList.FAILED ? 1 : 0;
        }
        Check.equal("each is lent or has failed", lent + failed, 40);
        // All copies of a title are at one home, which each request asks once, and for the lowest of them.
        Check.equal("a copy of each title", lent, 8);
        Check.equal("questions, copies and messages", arrived, 40 + 8 + 8);
    }

    /** A copy's message each time, while the ones before are on their way still. */
    private static void everyCopyMendedAgainAndAgain() {
        UnionList list = new UnionList();
        list.addCopy(5, 0);
        list.pass(6);
        int rounds = (CALLS - 4) / 3;
        for (int i = 0; i < rounds; i++) {
            Check.equal("harmed", list.harm(0), 5);
            Check.equal("known", list.look(0), 5);
            list.mend(0);
        }
        Check.equal("a message of each time", list.pass(6), rounds);
    }

    private static void debtOfTheLongestDelay() {
        UnionList list = Scenes.lentAndQuiet();
        int passes = CALLS - 10;
        for (int i = 0; i < passes; i++) {
            list.pass(100);
        }
        int late = list.today() - Scenes.DUE_ON;
        Check.equal("days late", list.sendBack(0), late);
        Check.equal("1 for each", list.owes(Scenes.HOUSE, Scenes.HOME), late);
        Check.equal("one pair", list.settle(), 1);
    }

    private static void refusedCallsToTheEnd() {
        UnionList list = new UnionList();
        list.addCopy(5, 0);
        for (int i = 0; i < (CALLS - 2) / 3; i++) {
            Check.badArgument("pass", () -> list.pass(101));
            Check.badIndex("renew", () -> list.renew(0));
            Check.badState("mend", () -> list.mend(0));
        }
        Check.equal("the one message", list.pass(6), 1);
    }
}
