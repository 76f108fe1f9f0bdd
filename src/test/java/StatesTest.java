/** What each method of the face answers or refuses in every state of a request and at every place of a copy. */
public final class StatesTest {
    private static final int REFUSED = -99;

    public static void main(String[] args) {
        requestThatAsks();
        requestThatIsComing();
        requestThatIsLoan();
        requestThatGoesBack();
        requestThatIsOver();
        requestThatFailedAtOnce();
        requestThatFailedWhenRefused();
        loanThatWasRecalled();
        everyStateTurnsOnTheDayOfTheArrival();
        copyAtHome();
        copyOnItsWayOut();
        copyAtHouse();
        copyOnItsWayHome();
        copyThatCameHome();
        Check.finish();
    }

    // ---- requests: promises 10 to 15

    private static void requestThatAsks() {
        UnionList list = Scenes.asking();
        Check.equal("asking", list.state(0), UnionList.ASKING);
        Check.equal("the copy that is asked for", list.copyOf(0), 0);
        noLoan(list);
    }

    private static void requestThatIsComing() {
        UnionList list = Scenes.coming();
        Check.equal("coming", list.state(0), UnionList.COMING);
        Check.equal("the copy that is coming", list.copyOf(0), 0);
        noLoan(list);
    }

    private static void requestThatIsLoan() {
        UnionList list = Scenes.lent();
        Check.equal("lent", list.state(0), UnionList.LOAN);
        Check.equal("the copy that is lent", list.copyOf(0), 0);
        Check.equal("due", list.due(0), Scenes.DUE_ON);
        Check.equal("renew", list.renew(0), Scenes.LENT_ON + Scenes.WAY);
        Check.equal("recall", list.recall(0), Scenes.LENT_ON + Scenes.WAY);
        Check.equal("a loan still", list.state(0), UnionList.LOAN);
        Check.equal("sendBack", list.sendBack(0), 0);
    }

    private static void requestThatGoesBack() {
        UnionList list = Scenes.goingBack();
        Check.equal("going back", list.state(0), UnionList.GOING_BACK);
        Check.equal("the copy that goes back", list.copyOf(0), 0);
        noLoan(list);
    }

    private static void requestThatIsOver() {
        UnionList list = Scenes.over();
        Check.equal("over", list.state(0), UnionList.OVER);
        Check.equal("the copy that is home again", list.copyOf(0), 0);
        noLoan(list);
    }

    private static void requestThatFailedAtOnce() {
        UnionList list = Scenes.failedAtOnce();
        Check.equal("failed", list.state(0), UnionList.FAILED);
        Check.equal("no copy", list.copyOf(0), -1);
        noLoan(list);
    }

    private static void requestThatFailedWhenRefused() {
        UnionList list = Scenes.failedWhenRefused();
        Check.equal("failed", list.state(0), UnionList.FAILED);
        Check.equal("no copy any more", list.copyOf(0), -1);
        noLoan(list);
    }

    /** "Throws IllegalStateException if it is no LOAN", of all four calls. */
    private static void noLoan(UnionList list) {
        int state = list.state(0);
        int copy = list.copyOf(0);
        Check.badState("due in state " + state, () -> list.due(0));
        Check.badState("renew in state " + state, () -> list.renew(0));
        Check.badState("recall in state " + state, () -> list.recall(0));
        Check.badState("sendBack in state " + state, () -> list.sendBack(0));
        Check.equal("the state is as it was", list.state(0), state);
        Check.equal("the copy is as it was", list.copyOf(0), copy);
    }

    /** "Throws IllegalStateException if it is no LOAN, or a recall of it was sent": the recall alone is refused. */
    private static void loanThatWasRecalled() {
        UnionList sent = Scenes.lent();
        sent.recall(0);
        Check.badState("a second recall on the same day", () -> sent.recall(0));
        Check.equal("renew", sent.renew(0), Scenes.LENT_ON + Scenes.WAY);
        Check.equal("due", sent.due(0), Scenes.DUE_ON);
        Check.equal("a loan still", sent.state(0), UnionList.LOAN);
        Check.equal("sendBack", sent.sendBack(0), 0);

        UnionList arrived = Scenes.lent();
        arrived.recall(0);
        arrived.pass(Scenes.WAY);
        Check.badState("a second recall when the first has arrived", () -> arrived.recall(0));
        Check.equal("renew", arrived.renew(0), Scenes.LENT_ON + 2 * Scenes.WAY);
        Check.equal("due", arrived.due(0), Scenes.LENT_ON + Scenes.WAY + 5);
        arrived.pass(100);
        Check.badState("a second recall when it is long overdue", () -> arrived.recall(0));
        Check.equal("sendBack", arrived.sendBack(0) > 0, true);
    }

    private static void everyStateTurnsOnTheDayOfTheArrival() {
        UnionList list = Scenes.asking();
        list.pass(Scenes.WAY - 1);
        Check.equal("a day before the question arrives", list.state(0), UnionList.ASKING);
        list.pass(1);
        Check.equal("on the day", list.state(0), UnionList.COMING);
        list.pass(Scenes.WAY - 1);
        Check.equal("a day before the copy arrives", list.state(0), UnionList.COMING);
        list.pass(1);
        Check.equal("on the day", list.state(0), UnionList.LOAN);
        list.pass(100);
        Check.equal("a loan stays one however late it is", list.state(0), UnionList.LOAN);
        list.sendBack(0);
        Check.equal("on the day on which it is sent", list.state(0), UnionList.GOING_BACK);
        list.pass(Scenes.WAY - 1);
        Check.equal("a day before it comes home", list.state(0), UnionList.GOING_BACK);
        list.pass(1);
        Check.equal("on the day", list.state(0), UnionList.OVER);
        list.pass(100);
        Check.equal("over for ever", list.state(0), UnionList.OVER);
    }

    // ---- copies: promises 3 to 8

    private static void copyAtHome() {
        copyAnswers("at home", Scenes.listedAtHome(), new int[] {Scenes.HOME, 1, -1, REFUSED, Scenes.HOME});
        copyAnswers("at home, harm unknown", harmed(Scenes.listedAtHome()),
                new int[] {Scenes.HOME, 1, Scenes.HOME, REFUSED, REFUSED});
        copyAnswers("at home, harm known", harmedAndSeen(Scenes.listedAtHome()),
                new int[] {Scenes.HOME, 0, -1, 0, REFUSED});
    }

    private static void copyOnItsWayOut() {
        copyAnswers("on its way out", Scenes.coming(), new int[] {Scenes.HOME, 0, REFUSED, REFUSED, Scenes.HOME});
        copyAnswers("on its way out, harm unknown", harmed(Scenes.coming()),
                new int[] {Scenes.HOME, 0, REFUSED, REFUSED, REFUSED});
    }

    private static void copyAtHouse() {
        copyAnswers("at the house", Scenes.lent(), new int[] {Scenes.HOUSE, 0, -1, REFUSED, Scenes.HOUSE});
        copyAnswers("at the house, harm unknown", harmed(Scenes.lent()),
                new int[] {Scenes.HOUSE, 0, Scenes.HOUSE, REFUSED, REFUSED});
        copyAnswers("at the house, harm known", harmedAndSeen(Scenes.lent()),
                new int[] {Scenes.HOUSE, 0, -1, REFUSED, REFUSED});
        UnionList fromHome = harmed(Scenes.coming());
        fromHome.pass(Scenes.WAY);
        copyAnswers("at the house, harmed on its way out", fromHome,
                new int[] {Scenes.HOUSE, 0, Scenes.HOME, REFUSED, REFUSED});
    }

    private static void copyOnItsWayHome() {
        copyAnswers("on its way home", Scenes.goingBack(),
                new int[] {Scenes.HOUSE, 0, REFUSED, REFUSED, Scenes.HOUSE});
        copyAnswers("on its way home, harm unknown", harmed(Scenes.goingBack()),
                new int[] {Scenes.HOUSE, 0, REFUSED, REFUSED, REFUSED});
        UnionList known = harmedAndSeen(Scenes.lent());
        known.sendBack(0);
        copyAnswers("on its way home, harm known", known, new int[] {Scenes.HOUSE, 0, REFUSED, REFUSED, REFUSED});
    }

    private static void copyThatCameHome() {
        copyAnswers("home again", Scenes.over(), new int[] {Scenes.HOME, 1, -1, REFUSED, Scenes.HOME});
        UnionList found = harmed(Scenes.goingBack());
        found.pass(Scenes.WAY);
        copyAnswers("home again, harm found by that", found, new int[] {Scenes.HOME, 0, -1, 0, REFUSED});
        UnionList known = harmedAndSeen(Scenes.lent());
        known.sendBack(0);
        known.pass(Scenes.WAY);
        copyAnswers("home again, harm known before", known, new int[] {Scenes.HOME, 0, -1, 0, REFUSED});
    }

    private static UnionList harmed(UnionList list) {
        list.harm(0);
        return list;
    }

    private static UnionList harmedAndSeen(UnionList list) {
        list.harm(0);
        list.look(0);
        return list;
    }

    /**
     * Due are the answers of inHandsOf, isFree, look, mend and harm, in this order; look makes no harm mendable away
     * from home, and where mend is due the harm was known before.
     */
    private static void copyAnswers(String where, UnionList list, int[] due) {
        Check.equal("inHandsOf " + where, list.inHandsOf(0), due[0]);
        Check.equal("isFree " + where, list.isFree(0), due[1] == 1);
        if (due[3] == REFUSED) {
            Check.badState("mend " + where, () -> list.mend(0));
        }
        if (due[4] == REFUSED) {
            Check.badState("harm " + where, () -> list.harm(0));
        }
        if (due[2] == REFUSED) {
            Check.badState("look " + where, () -> list.look(0));
        } else {
            Check.equal("look " + where, list.look(0), due[2]);
            Check.equal("look once more " + where, list.look(0), -1);
        }
        if (due[4] != REFUSED) {
            Check.equal("harm " + where, list.harm(0), due[4]);
            Check.badState("harm once more " + where, () -> list.harm(0));
        }
        if (due[3] != REFUSED) {
            list.mend(0);
            Check.equal("isFree when mended " + where, list.isFree(0), true);
            Check.badState("mend once more " + where, () -> list.mend(0));
            Check.equal("harm when mended " + where, list.harm(0), due[0]);
        }
    }
}
