/** Promises 1 to 8. */
public final class CopiesTest {
    private static final int[] NO_SUCH = {-1, 20, 40, Integer.MIN_VALUE, Integer.MAX_VALUE};

    public static void main(String[] args) {
        promise1NewObject();
        promise2AddCopyNumbersAndRanges();
        promise2AddCopyFull();
        promise3InHandsOf();
        promise4IsFree();
        promise5ListedLagsBehind();
        promise5ListedAfterLoan();
        promise6Harm();
        promise7Look();
        promise7LookAtHome();
        promise8Mend();
        promise8MendNeedsHomeAndKnownHarm();
        refusedCallsChangeNothing();
        Check.finish();
    }

    private static void promise1NewObject() {
        UnionList list = new UnionList();
        Check.equal("day of a new object", list.today(), 0);
        Check.badIndex("no copy yet", () -> list.isFree(0));
        Check.badIndex("no request yet", () -> list.state(0));
        for (int house = 0; house < 6; house++) {
            Check.equal("new quota", list.quota(house), 0);
            for (int other = 0; other < 6; other++) {
                Check.equal("new debts", list.owes(house, other), 0);
            }
        }
        Check.equal("nothing to settle", list.settle(), 0);
        Check.equal("nothing on its way", list.pass(100), 0);
        UnionList second = new UnionList();
        second.addCopy(1, 1);
        Check.badIndex("objects share nothing", () -> list.isFree(0));
        Check.equal("days are each object's own", second.today(), 0);
    }

    private static void promise2AddCopyNumbersAndRanges() {
        UnionList list = new UnionList();
        int[] badHomes = {-1, 6, Integer.MIN_VALUE, Integer.MAX_VALUE};
        int[] badTitles = {-1, 8, Integer.MIN_VALUE, Integer.MAX_VALUE};
        for (int home : badHomes) {
            Check.badArgument("home " + home, () -> list.addCopy(home, 0));
        }
        for (int title : badTitles) {
            Check.badArgument("title " + title, () -> list.addCopy(0, title));
        }
        Check.equal("first number", list.addCopy(5, 7), 0);
        Check.equal("second number", list.addCopy(0, 0), 1);
        Check.equal("third number", list.addCopy(0, 0), 2);
        Check.equal("a new copy is free", list.isFree(0), true);
        Check.equal("a new copy is at home", list.inHandsOf(0), 5);
        Check.equal("a new copy isn't listed", list.listed(0), -1);
    }

    private static void promise2AddCopyFull() {
        UnionList list = new UnionList();
        for (int i = 0; i < 20; i++) {
            Check.equal("number", list.addCopy(i % 6, i % 8), i);
        }
        Check.badState("the 21st copy", () -> list.addCopy(0, 0));
        Check.badArgument("home comes before room", () -> list.addCopy(6, 0));
        Check.badArgument("title comes before room", () -> list.addCopy(0, 8));
        Check.equal("20 messages and no more", list.pass(6), 20);
        Check.badIndex("no copy 20", () -> list.isFree(20));
    }

    private static void promise3InHandsOf() {
        UnionList list = new UnionList();
        Runs.noSuch(NO_SUCH, list::inHandsOf);
        Runs.lend(list, 1, 4, 0);
        Check.equal("at the house", list.inHandsOf(0), 4);
        list.sendBack(0);
        Check.equal("on its way home in the house's hands", list.inHandsOf(0), 4);
        list.pass(3);
        Check.equal("a day before home", list.inHandsOf(0), 4);
        list.pass(1);
        Check.equal("home again", list.inHandsOf(0), 1);
        list.pass(2);
        list.request(3, 0);
        list.pass(3);
        Check.equal("coming", list.state(1), UnionList.COMING);
        Check.equal("on its way out in the home's hands", list.inHandsOf(0), 1);
        list.pass(2);
        Check.equal("a day before the house", list.inHandsOf(0), 1);
        list.pass(1);
        Check.equal("at the house on the day", list.inHandsOf(0), 3);
        Runs.noSuch(new int[] {1, -1, 20}, list::inHandsOf);
    }

    private static void promise4IsFree() {
        UnionList list = new UnionList();
        Runs.noSuch(NO_SUCH, list::isFree);
        list.addCopy(2, 0);
        list.harm(0);
        Check.equal("unknown harm leaves it free", list.isFree(0), true);
        list.look(0);
        Check.equal("known harm doesn't", list.isFree(0), false);
        list.mend(0);
        Check.equal("mended is free", list.isFree(0), true);
        list.pass(3);
        list.request(0, 0);
        list.pass(2);
        Check.equal("free until the question is there", list.isFree(0), true);
        list.pass(1);
        Check.equal("on its way out", list.isFree(0), false);
        list.pass(3);
        Check.equal("lent", list.isFree(0), false);
        list.sendBack(0);
        list.pass(2);
        Check.equal("on its way home", list.isFree(0), false);
        list.pass(1);
        Check.equal("home again", list.isFree(0), true);
        Runs.noSuch(new int[] {1, -1}, list::isFree);
    }

    private static void promise5ListedLagsBehind() {
        Runs.noSuch(NO_SUCH, new UnionList()::listed);
        for (int home = 0; home < 6; home++) {
            UnionList list = new UnionList();
            list.addCopy(home, 0);
            if (home > 0) {
                Check.equal("nothing arrives before", list.pass(home), 0);
            }
            Check.equal("not listed a day before", list.listed(0), -1);
            Check.equal("the message", list.pass(1), 1);
            Check.equal("listed", list.listed(0), 1);
        }
    }

    private static void promise5ListedAfterLoan() {
        UnionList list = new UnionList();
        list.addCopy(3, 0);
        list.pass(4);
        list.request(5, 0);
        list.pass(3);
        list.pass(3);
        Check.equal("still listed as free", list.listed(0), 1);
        Check.equal("lent already", list.state(0), UnionList.LOAN);
        Check.equal("the message that it was sent away", list.pass(1), 1);
        Check.equal("listed as sent away", list.listed(0), 0);
        list.sendBack(0);
        list.pass(3);
        Check.equal("home, not yet listed", list.listed(0), 0);
        list.pass(3);
        Check.equal("a day before", list.listed(0), 0);
        list.pass(1);
        Check.equal("listed as free again", list.listed(0), 1);
        list.harm(0);
        list.look(0);
        Check.equal("known harm sends no message", list.pass(20), 0);
        Check.equal("listed as free though harmed", list.listed(0), 1);
    }

    private static void promise6Harm() {
        UnionList list = new UnionList();
        Runs.noSuch(NO_SUCH, list::harm);
        list.addCopy(4, 0);
        Check.equal("at home", list.harm(0), 4);
        Check.badState("harmed again", () -> list.harm(0));
        list.look(0);
        Check.badState("harmed again when known", () -> list.harm(0));
        list.mend(0);
        list.pass(5);
        list.request(2, 0);
        list.pass(3);
        Check.equal("on its way out", list.harm(0), 4);
        list.pass(3);
        Check.equal("the house finds it", list.look(0), 4);
        Check.equal("the home harmed it itself", list.owes(4, 2) + list.owes(2, 4), 0);
        Check.equal("and no house owes for it", list.settle(), 0);
        list.sendBack(0);
        list.pass(3);
        list.mend(0);
        list.pass(5);
        list.request(2, 0);
        list.pass(6);
        Check.equal("lent again", list.state(1), UnionList.LOAN);
        list.sendBack(1);
        Check.equal("on its way home", list.harm(0), 2);
        Check.equal("owes nothing before it is known", list.owes(2, 4), 0);
        list.pass(3);
        Check.equal("looked at when it came home", list.owes(2, 4), 30);
        Check.equal("and not free", list.isFree(0), false);
        Runs.noSuch(new int[] {1, -1}, list::harm);
    }

    private static void promise7Look() {
        UnionList list = new UnionList();
        Runs.noSuch(NO_SUCH, list::look);
        Runs.lend(list, 0, 5, 3);
        Check.equal("no harm", list.look(0), -1);
        Check.equal("harmed by the house", list.harm(0), 5);
        Check.equal("owes nothing yet", list.owes(5, 0), 0);
        Check.equal("becomes known", list.look(0), 5);
        Check.equal("owes for the harm", list.owes(5, 0), 30);
        Check.equal("the other way round", list.owes(0, 5), -30);
        Check.equal("is known already", list.look(0), -1);
        Check.equal("owes no more for it", list.owes(5, 0), 30);
        list.sendBack(0);
        Check.badState("on its way home", () -> list.look(0));
        list.pass(6);
        Check.equal("known harm isn't found at home again", list.owes(5, 0), 30);
        Check.equal("nor by another look", list.look(0), -1);
        list.mend(0);
        list.pass(1);
        list.request(1, 3);
        list.pass(2);
        Check.badState("on its way out", () -> list.look(0));
        Runs.noSuch(new int[] {1, -1}, list::look);
    }

    private static void promise7LookAtHome() {
        UnionList list = new UnionList();
        list.addCopy(3, 1);
        Check.equal("no harm", list.look(0), -1);
        list.harm(0);
        Check.equal("harmed at home", list.look(0), 3);
        Check.equal("again", list.look(0), -1);
        Check.equal("no house owes", list.settle(), 0);
        UnionList other = new UnionList();
        other.addCopy(0, 1);
        other.harm(0);
        Check.equal("house 0 is not nobody", other.look(0), 0);
    }

    private static void promise8Mend() {
        UnionList list = new UnionList();
        Runs.noSuch(NO_SUCH, list::mend);
        list.addCopy(1, 0);
        list.pass(2);
        list.harm(0);
        list.look(0);
        list.mend(0);
        Check.equal("free at once", list.isFree(0), true);
        Check.equal("no harm to be found", list.look(0), -1);
        Check.badState("mended already", () -> list.mend(0));
        Check.equal("not there before", list.pass(1), 0);
        Check.equal("the message that it is free", list.pass(1), 1);
        Check.equal("can be harmed again", list.harm(0), 1);
        Runs.noSuch(new int[] {1, -1}, list::mend);
    }

    private static void promise8MendNeedsHomeAndKnownHarm() {
        UnionList list = new UnionList();
        list.addCopy(1, 0);
        Check.badState("no harm", () -> list.mend(0));
        list.harm(0);
        Check.badState("unknown harm", () -> list.mend(0));
        list.pass(2);
        list.request(0, 0);
        list.pass(4);
        Check.equal("lent though harmed", list.state(0), UnionList.LOAN);
        list.look(0);
        Check.badState("not at home", () -> list.mend(0));
        list.sendBack(0);
        Check.badState("on its way home", () -> list.mend(0));
        list.pass(2);
        Check.equal("listed as sent away", list.listed(0), 0);
        Check.equal("harmed, so no message", list.pass(10), 0);
        list.mend(0);
        Check.equal("a message", list.pass(2), 1);
        Check.equal("listed as free", list.listed(0), 1);
    }

    private static void refusedCallsChangeNothing() {
        UnionList list = new UnionList();
        list.addCopy(2, 0);
        Check.badState("mend", () -> list.mend(0));
        Check.badArgument("addCopy", () -> list.addCopy(2, 8));
        Check.badArgument("request", () -> list.request(6, 0));
        Check.badArgument("pass", () -> list.pass(101));
        Check.equal("the day", list.today(), 0);
        Check.equal("one message is on its way", list.pass(100), 1);
        Check.badIndex("no second copy", () -> list.listed(1));
        Check.badIndex("no request", () -> list.state(0));
        list.harm(0);
        Check.badState("harm", () -> list.harm(0));
        Check.equal("unknown still", list.isFree(0), true);
    }
}
