/** The sentences of "Terms" on days, ways, the order of arrivals, hands, and what the list knows. */
public final class WaysAndMessagesTest {
    public static void main(String[] args) {
        daysAreCountedFrom0();
        wayBetweenEachTwoHouses();
        wayFromEachHouseToTheList();
        nothingArrivesOnTheDayOnWhichItIsSent();
        newsAheadOfQuestionOfTheSameDay();
        questionAheadOfNewsOfTheSameDay();
        copyHomeAheadOfQuestion();
        questionAheadOfCopyHome();
        questionSentFirstFromAfarIsFirst();
        questionsOfTheSameDayInOrder();
        loansOfTheSameDayInOrderOfSending();
        loansSentOnTheSameDayInOrder();
        sameOrderWhenManyDaysPassAtOnce();
        copiesHomeInOrder();
        onItsWayInTheHandsOfTheSender();
        freeAtHomeUntilHarmIsKnown();
        listKnowsNothingAtFirst();
        listKnowsTheMessageThatArrivedLast();
        messageWhenAdded();
        messageWhenSentAwayAndWhenHomeAgain();
        noMessageWhenHomeAgainHarmed();
        noMessageWhenHarmedOrLookedAt();
        messageWhenMended();
        passCountsEachKindOnce();
        passCountsWhatHasNoEffect();
        passCountsTheFirstAndTheLastDay();
        Check.finish();
    }

    /** "Days are counted from 0." */
    private static void daysAreCountedFrom0() {
        UnionList list = new UnionList();
        Check.equal("a new object", list.today(), 0);
        list.addCopy(0, 0);
        list.request(1, 1);
        list.settle();
        Check.equal("no call but pass lets days pass", list.today(), 0);
        list.pass(1);
        Check.equal("the day behind the first", list.today(), 1);
    }

    /** "the way between two houses takes as many days as the difference of their numbers, without its sign, and 1 more" */
    private static void wayBetweenEachTwoHouses() {
        for (int home = 0; home <= 5; home++) {
            for (int house = 0; house <= 5; house++) {
                if (home != house) {
                    wayThereAndBack(home, house, Scenes.wayBetween(home, house));
                }
            }
        }
        wayThereAndBack(0, 5, 6);
        wayThereAndBack(5, 0, 6);
        wayThereAndBack(0, 1, 2);
        wayThereAndBack(5, 4, 2);
    }

    private static void wayThereAndBack(int home, int house, int way) {
        UnionList list = new UnionList();
        list.addCopy(home, 0);
        list.pass(6);
        list.request(house, 0);
        String name = " from home " + home + " and house " + house;
        turns(list, "question" + name, way, UnionList.ASKING, UnionList.COMING);
        turns(list, "copy" + name, way, UnionList.COMING, UnionList.LOAN);
        list.pass(6);
        Check.equal("renewal" + name, list.renew(0), list.today() + way);
        Check.equal("recall" + name, list.recall(0), list.today() + way);
        list.pass(way - 1);
        int due = list.due(0);
        list.pass(1);
        Check.equal("recall turns the day" + name, list.due(0) == due, false);
        list.sendBack(0);
        turns(list, "copy home" + name, way, UnionList.GOING_BACK, UnionList.OVER);
    }

    private static void turns(UnionList list, String what, int way, int before, int behind) {
        list.pass(way - 1);
        Check.equal("a day before: " + what, list.state(0), before);
        list.pass(1);
        Check.equal("on the day: " + what, list.state(0), behind);
    }

    /** "the way from a house to the list takes as many days as the number of the house, and 1 more" */
    private static void wayFromEachHouseToTheList() {
        for (int home = 0; home <= 5; home++) {
            UnionList list = new UnionList();
            list.addCopy(home, 0);
            listedTurns(list, home, -1, 1);
            int house = home == 0 ? 1 : home - 1;
            list.request(house, 0);
            list.pass(2);
            listedTurns(list, home, 1, 0);
            // The copy is lent from the second day of its way on, whatever the list knows.
            list.pass(2);
            list.sendBack(0);
            list.pass(2);
            listedTurns(list, home, 0, 1);
        }
    }

    private static void listedTurns(UnionList list, int home, int before, int behind) {
        for (int day = 0; day < home + 1; day++) {
            Check.equal("day " + day + " of the way from " + home, list.listed(0), before);
            list.pass(1);
        }
        Check.equal("the way from " + home + " is over", list.listed(0), behind);
    }

    private static void nothingArrivesOnTheDayOnWhichItIsSent() {
        UnionList list = new UnionList();
        list.addCopy(0, 0);
        Check.equal("the nearest home's message", list.listed(0), -1);
        Check.equal("arrives behind a day", list.pass(1), 1);
        list.request(1, 0);
        Check.equal("the nearest home's question", list.state(0), UnionList.ASKING);
        Check.equal("not behind a day", list.pass(1), 0);
        Check.equal("but behind two", list.pass(1), 1);
    }

    /** "what arrives on the same day does so in the order in which it was sent": news of home 2 takes 3 days too. */
    private static void newsAheadOfQuestionOfTheSameDay() {
        UnionList list = Scenes.listedAtHome();
        list.harm(0);
        list.look(0);
        list.addCopy(2, 0);
        list.request(1, 0);
        Check.equal("both arrive", list.pass(3), 2);
        Check.equal("the list knows the copy when the refusal comes", list.state(0), UnionList.ASKING);
        Check.equal("and asks for it", list.copyOf(0), 1);
    }

    private static void questionAheadOfNewsOfTheSameDay() {
        UnionList list = Scenes.listedAtHome();
        list.harm(0);
        list.look(0);
        list.request(1, 0);
        list.addCopy(2, 0);
        Check.equal("both arrive", list.pass(3), 2);
        Check.equal("the list knows the copy by now", list.listed(1), 1);
        Check.equal("but didn't when the refusal came", list.state(0), UnionList.FAILED);
    }

    /** House 1 has copy 0 of home 2 in its hands, and the list thinks still that it is free. */
    private static UnionList lentAndThoughtFree() {
        UnionList list = new UnionList();
        list.addCopy(2, 0);
        list.pass(3);
        list.request(1, 0);
        list.pass(4);
        Check.equal("lent", list.state(0), UnionList.LOAN);
        Check.equal("thought free", list.listed(0), 1);
        return list;
    }

    private static void copyHomeAheadOfQuestion() {
        UnionList list = lentAndThoughtFree();
        list.sendBack(0);
        list.request(3, 0);
        list.pass(2);
        Check.equal("home again", list.state(0), UnionList.OVER);
        Check.equal("before the question arrives", list.state(1), UnionList.COMING);
        Check.equal("and sent away at once", list.isFree(0), false);
    }

    private static void questionAheadOfCopyHome() {
        UnionList list = lentAndThoughtFree();
        list.request(3, 0);
        list.sendBack(0);
        list.pass(2);
        Check.equal("home again", list.state(0), UnionList.OVER);
        Check.equal("behind the question", list.state(1), UnionList.FAILED);
        Check.equal("and free", list.isFree(0), true);
    }

    private static void questionSentFirstFromAfarIsFirst() {
        UnionList list = Scenes.listedAtHome();
        list.request(0, 0);
        list.pass(2);
        list.request(4, 0);
        list.pass(2);
        Check.equal("sent first", list.state(0), UnionList.COMING);
        Check.equal("sent later, arrived on the same day", list.state(1), UnionList.FAILED);

        UnionList near = Scenes.listedAtHome();
        near.request(0, 0);
        near.pass(1);
        near.request(4, 0);
        near.pass(2);
        Check.equal("sent later, arrived a day before", near.state(1), UnionList.COMING);
        near.pass(1);
        Check.equal("sent first", near.state(0), UnionList.FAILED);
    }

    private static void questionsOfTheSameDayInOrder() {
        for (int first = 1; first <= 5; first += 4) {
            UnionList list = Scenes.listedAtHome();
            list.request(first, 0);
            list.request(6 - first, 0);
            list.pass(3);
            Check.equal("house " + first + " asked first", list.state(0), UnionList.COMING);
            Check.equal("the other one second", list.state(1), UnionList.FAILED);
        }
    }

    /** Three loans of house 0 arrive on one day; only the one that was sent last is paid. */
    private static void loansOfTheSameDayInOrderOfSending() {
        UnionList list = new UnionList();
        for (int home = 1; home <= 3; home++) {
            list.addCopy(home, home);
        }
        list.pass(4);
        list.request(0, 3);
        list.pass(2);
        list.request(0, 2);
        list.pass(2);
        list.request(0, 1);
        list.pass(4);
        for (int request = 0; request < 3; request++) {
            Check.equal("due day of all", list.due(request), 32);
        }
        Check.equal("the farthest was sent first", list.owes(0, 3), 0);
        Check.equal("then the middle one", list.owes(0, 2), 0);
        Check.equal("the nearest was sent last", list.owes(0, 1), 6);
    }

    private static void loansSentOnTheSameDayInOrder() {
        for (int last = 1; last <= 3; last += 2) {
            UnionList list = new UnionList();
            list.addCopy(1, 1);
            list.addCopy(3, 3);
            list.addCopy(4 - last, 0);
            list.pass(4);
            list.request(2, 0);
            list.request(2, 4 - last);
            list.request(2, last);
            list.pass(4);
            Check.equal("asked first and second", list.owes(2, 4 - last), 0);
            Check.equal("asked last, sent last, paid", list.owes(2, last), 6);
        }
    }

    private static void sameOrderWhenManyDaysPassAtOnce() {
        UnionList list = Scenes.listedAtHome();
        list.addCopy(5, 0);
        list.addCopy(0, 0);
        list.pass(6);
        list.request(4, 0);
        list.request(2, 0);
        Check.equal("both ask for copy 0", list.copyOf(0) + list.copyOf(1), 0);
        list.pass(100);
        Check.equal("the first has it", list.copyOf(0), 0);
        Check.equal("the second has the next", list.copyOf(1), 2);
        Check.equal("arrived behind 2 and 2 days", list.due(0), 10 + 4 + 20);
        Check.equal("arrived behind 2, 3 and 3 days", list.due(1), 10 + 8 + 20);
    }

    /** Each copy that comes home sends its message when it arrives, so that the messages keep the order. */
    private static void copiesHomeInOrder() {
        UnionList list = new UnionList();
        list.addCopy(1, 0);
        list.addCopy(3, 0);
        list.pass(4);
        list.request(2, 0);
        list.request(2, 0);
        list.pass(2);
        Check.equal("the second was refused by home 1", list.copyOf(1), 1);
        list.pass(4);
        list.sendBack(1);
        list.sendBack(0);
        list.pass(2);
        Check.equal("home 1's message takes 2 days", list.pass(2), 1);
        Check.equal("listed", list.listed(0), 1);
        Check.equal("home 3's not yet", list.listed(1), 0);
        Check.equal("home 3's takes 4", list.pass(2), 1);
        Check.equal("listed", list.listed(1), 1);
    }

    /** "It is in the hands of the house at which it is; on its way in those of the house that has sent it." */
    private static void onItsWayInTheHandsOfTheSender() {
        UnionList list = Scenes.coming();
        Check.equal("sent by the home", list.inHandsOf(0), Scenes.HOME);
        list.pass(Scenes.WAY - 1);
        Check.equal("a day before it arrives", list.inHandsOf(0), Scenes.HOME);
        list.pass(1);
        Check.equal("on the day", list.inHandsOf(0), Scenes.HOUSE);
        list.sendBack(0);
        Check.equal("sent by the house", list.inHandsOf(0), Scenes.HOUSE);
        list.pass(Scenes.WAY - 1);
        Check.equal("a day before it is home", list.inHandsOf(0), Scenes.HOUSE);
        list.pass(1);
        Check.equal("on the day", list.inHandsOf(0), Scenes.HOME);
    }

    /** "It is free if it is at home and no harm of it is known." */
    private static void freeAtHomeUntilHarmIsKnown() {
        UnionList list = Scenes.asking();
        list.pass(Scenes.WAY - 1);
        Check.equal("asked for, but at home", list.isFree(0), true);
        list.pass(1);
        Check.equal("on its way out", list.isFree(0), false);
        list.pass(Scenes.WAY);
        Check.equal("at the house", list.isFree(0), false);
        list.sendBack(0);
        list.pass(Scenes.WAY - 1);
        Check.equal("a day before it is home", list.isFree(0), false);
        list.pass(1);
        Check.equal("home", list.isFree(0), true);
        list.harm(0);
        Check.equal("unknown harm", list.isFree(0), true);
        list.look(0);
        Check.equal("known harm", list.isFree(0), false);
    }

    /** "Returns 1 that it is free, 0 that it was sent away, -1 nothing." */
    private static void listKnowsNothingAtFirst() {
        UnionList list = new UnionList();
        list.addCopy(5, 0);
        Check.equal("nothing", list.listed(0), -1);
        list.pass(5);
        Check.equal("nothing still", list.listed(0), -1);
        list.harm(0);
        list.look(0);
        list.pass(1);
        Check.equal("free, though it isn't any more", list.listed(0), 1);
        Check.equal("not free", list.isFree(0), false);
        list.addCopy(5, 0);
        Check.equal("nothing of another copy of the home", list.listed(1), -1);
        Check.equal("and still of the first", list.listed(0), 1);
    }

    /** "The list knows of a copy what the message to it that arrived last has told" */
    private static void listKnowsTheMessageThatArrivedLast() {
        UnionList list = new UnionList();
        list.addCopy(5, 0);
        list.pass(6);
        list.request(4, 0);
        list.pass(4);
        list.sendBack(0);
        list.pass(2);
        Check.equal("home before the list heard that it was sent away", list.isFree(0), true);
        Check.equal("known as free by the first message", list.listed(0), 1);
        list.pass(2);
        Check.equal("then known as sent away, while it is at home", list.listed(0), 0);
        list.request(4, 0);
        Check.equal("so that it isn't asked for", list.state(1), UnionList.FAILED);
        list.pass(3);
        Check.equal("sent away until the last message", list.listed(0), 0);
        list.pass(1);
        Check.equal("then free", list.listed(0), 1);
    }

    /** "A home sends the message that a copy is free when it is added": one for each. */
    private static void messageWhenAdded() {
        UnionList list = new UnionList();
        list.addCopy(0, 0);
        list.addCopy(0, 0);
        list.addCopy(5, 0);
        Check.equal("two of home 0", list.pass(1), 2);
        Check.equal("none between", list.pass(4), 0);
        Check.equal("one of home 5", list.pass(1), 1);
        Check.equal("no more", list.pass(100), 0);
    }

    private static void messageWhenSentAwayAndWhenHomeAgain() {
        UnionList list = Scenes.coming();
        Check.equal("the copy on the third day, no message yet", list.pass(3), 1);
        Check.equal("known as free", list.listed(0), 1);
        Check.equal("the message on the fourth", list.pass(1), 1);
        Check.equal("known as sent away", list.listed(0), 0);
        list.sendBack(0);
        Check.equal("nothing tells the list that it goes back", list.pass(2), 0);
        Check.equal("the copy", list.pass(1), 1);
        Check.equal("no message before", list.pass(3), 0);
        Check.equal("the message", list.pass(1), 1);
        Check.equal("known as free", list.listed(0), 1);
        Check.equal("no more", list.pass(100), 0);
    }

    /** "when it has come home and is free": it isn't when its harm is known or found as it comes home. */
    private static void noMessageWhenHomeAgainHarmed() {
        UnionList found = Scenes.lentAndQuiet();
        found.harm(0);
        found.sendBack(0);
        Check.equal("the copy", found.pass(Scenes.WAY), 1);
        Check.equal("no message", found.pass(100), 0);
        Check.equal("known as sent away", found.listed(0), 0);

        UnionList known = Scenes.lentAndQuiet();
        known.harm(0);
        known.look(0);
        known.sendBack(0);
        Check.equal("the copy", known.pass(Scenes.WAY), 1);
        Check.equal("no message", known.pass(100), 0);
        Check.equal("known as sent away", known.listed(0), 0);
    }

    private static void noMessageWhenHarmedOrLookedAt() {
        UnionList list = Scenes.listedAtHome();
        list.look(0);
        list.harm(0);
        Check.equal("look and harm", list.pass(10), 0);
        list.look(0);
        list.look(0);
        Check.equal("harm that became known", list.pass(10), 0);
        Check.equal("known as free still", list.listed(0), 1);
    }

    /** "and when it was mended" */
    private static void messageWhenMended() {
        UnionList list = Scenes.lentAndQuiet();
        list.harm(0);
        list.sendBack(0);
        list.pass(Scenes.WAY);
        list.mend(0);
        Check.equal("nothing before", list.pass(Scenes.WAY_TO_LIST - 1), 0);
        Check.equal("known as sent away", list.listed(0), 0);
        Check.equal("the message", list.pass(1), 1);
        Check.equal("known as free", list.listed(0), 1);
        Check.equal("no more", list.pass(100), 0);
    }

    /** "Returns how many messages to the list, questions, renewals, recalls and copies arrive in them." */
    private static void passCountsEachKindOnce() {
        UnionList list = new UnionList();
        Check.equal("nothing is on its way", list.pass(100), 0);
        list.addCopy(3, 0);
        Check.equal("a message", list.pass(4), 1);
        list.request(1, 0);
        Check.equal("a question", list.pass(3), 1);
        Check.equal("a copy", list.pass(3), 1);
        Check.equal("a message", list.pass(1), 1);
        list.renew(0);
        Check.equal("a renewal", list.pass(3), 1);
        list.recall(0);
        Check.equal("a recall", list.pass(3), 1);
        list.sendBack(0);
        Check.equal("a copy", list.pass(3), 1);
        Check.equal("a message", list.pass(4), 1);
        Check.equal("nothing more", list.pass(100), 0);
    }

    private static void passCountsWhatHasNoEffect() {
        UnionList list = Scenes.lentAndQuiet();
        list.recall(0);
        list.renew(0);
        list.sendBack(0);
        Check.equal("renewal and recall of what is no loan, and the copy", list.pass(3), 3);
        UnionList refused = Scenes.listedAtHome();
        refused.harm(0);
        refused.look(0);
        refused.request(1, 0);
        Check.equal("a question that is refused", refused.pass(3), 1);
        Check.equal("failed", refused.state(0), UnionList.FAILED);
        Check.equal("the refusal itself isn't on its way", refused.pass(100), 0);
    }

    private static void passCountsTheFirstAndTheLastDay() {
        UnionList list = new UnionList();
        list.addCopy(0, 0);
        list.addCopy(5, 0);
        Check.equal("what arrives on the first day and on the last", list.pass(6), 2);
        UnionList before = new UnionList();
        before.addCopy(0, 0);
        before.addCopy(5, 0);
        Check.equal("not what arrives a day behind the last", before.pass(5), 1);
        Check.equal("that comes with the next", before.pass(100), 1);
    }
}
