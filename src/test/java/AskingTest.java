/** The sentences of "Terms" on requests: which home is asked, when, and when a request has failed. */
public final class AskingTest {
    public static void main(String[] args) {
        noCopyAtAll();
        copyNotYetKnown();
        copyKnownAsSentAway();
        copyOfAnotherTitle();
        onlyItsOwnCopies();
        ownCopiesBesideOthers();
        shortestWayBeforeLowestCopy();
        shortestWayToEachSide();
        lowestCopyOfTheSameHome();
        lowestCopyOfTwoHomesAsNear();
        lowestOfTheKnownOnes();
        asksOnTheDayOfTheRequest();
        questionOfTheLastDay();
        refusedForEachReason();
        harmThatNobodyKnowsIsSent();
        freeWhenTheQuestionArrives();
        homeIsAskedOnceForARequest();
        homeIsAskedAgainForAnotherRequest();
        asksFiveHomesOneAfterTheOther();
        asksTheNextOnTheSameDay();
        nextByWhatTheListKnowsThen();
        nextIsNotWhatIsKnownAsSentAwayByThen();
        nextMayBeNearerThanTheLast();
        failedStaysFailed();
        Check.finish();
    }

    private static UnionList listed(int... homesOfTitle0) {
        UnionList list = new UnionList();
        for (int home : homesOfTitle0) {
            list.addCopy(home, 0);
        }
        list.pass(6);
        return list;
    }

    private static void spoil(UnionList list, int... copies) {
        for (int copy : copies) {
            list.harm(copy);
            list.look(copy);
        }
    }

    private static void failed(String what, UnionList list, int request) {
        Check.equal(what, list.state(request), UnionList.FAILED);
        Check.equal("no copy: " + what, list.copyOf(request), -1);
    }

    // ---- "free by what it knows then, whose homes are not the house itself"

    private static void noCopyAtAll() {
        UnionList list = new UnionList();
        list.request(0, 0);
        failed("no copy at all", list, 0);
        Check.equal("no question", list.pass(100), 0);
    }

    private static void copyNotYetKnown() {
        UnionList list = new UnionList();
        list.addCopy(5, 0);
        list.request(4, 0);
        failed("on the day on which it is added", list, 0);
        list.pass(5);
        list.request(4, 0);
        failed("a day before the list knows it", list, 1);
        list.pass(1);
        list.request(4, 0);
        Check.equal("on the day on which the list knows it", list.state(2), UnionList.ASKING);
        failed("what failed before", list, 0);
    }

    private static void copyKnownAsSentAway() {
        UnionList list = Scenes.lent();
        list.request(4, 0);
        Check.equal("away, known as free", list.state(1), UnionList.ASKING);
        list.pass(1);
        list.request(4, 0);
        failed("away and known to be", list, 2);
        list.sendBack(0);
        list.pass(Scenes.WAY);
        Check.equal("free at home", list.isFree(0), true);
        list.request(4, 0);
        failed("free, known as sent away", list, 3);
    }

    private static void copyOfAnotherTitle() {
        UnionList list = new UnionList();
        list.addCopy(1, 1);
        list.addCopy(1, 7);
        list.pass(2);
        for (int title = 0; title <= 7; title++) {
            int request = list.request(0, title);
            Check.equal("copy of title " + title, list.copyOf(request), title == 1 ? 0 : title == 7 ? 1 : -1);
        }
    }

    private static void onlyItsOwnCopies() {
        for (int house = 0; house <= 5; house++) {
            UnionList list = listed(house, house);
            list.request(house, 0);
            failed("only its own copies, house " + house, list, 0);
            Check.equal("no question", list.pass(100), 0);
        }
    }

    private static void ownCopiesBesideOthers() {
        UnionList list = listed(0, 5, 0);
        list.request(0, 0);
        Check.equal("the farthest, for the others are its own", list.copyOf(0), 1);
        spoil(list, 1);
        list.pass(6);
        failed("its own isn't asked for behind it either", list, 0);
    }

    // ---- "the one whose home has the shortest way to the house, of several the lowest copy"

    private static void shortestWayBeforeLowestCopy() {
        UnionList list = listed(5, 4, 3, 2, 1);
        for (int request = 0; request < 5; request++) {
            list.request(request, 0);
        }
        Check.equal("house 0: home 1", list.copyOf(0), 4);
        Check.equal("house 1: home 2", list.copyOf(1), 3);
        Check.equal("house 2: homes 3 and 1", list.copyOf(2), 2);
        Check.equal("house 3: homes 4 and 2", list.copyOf(3), 1);
        Check.equal("house 4: homes 5 and 3", list.copyOf(4), 0);
    }

    private static void shortestWayToEachSide() {
        UnionList list = listed(0, 5);
        list.request(2, 0);
        Check.equal("3 days to home 0, 4 to home 5", list.copyOf(0), 0);
        list.request(3, 0);
        Check.equal("3 days to home 5, 4 to home 0", list.copyOf(1), 1);
        UnionList turned = listed(5, 0);
        turned.request(2, 0);
        Check.equal("3 days to home 0, 4 to home 5", turned.copyOf(0), 1);
        turned.request(3, 0);
        Check.equal("3 days to home 5, 4 to home 0", turned.copyOf(1), 0);
    }

    private static void lowestCopyOfTheSameHome() {
        UnionList list = listed(4, 2, 2, 2);
        list.request(1, 0);
        Check.equal("of copies 1 to 3", list.copyOf(0), 1);
        list.pass(2);
        list.request(1, 0);
        Check.equal("still, for the list doesn't know that it was sent", list.copyOf(1), 1);
        list.pass(3);
        list.request(1, 0);
        Check.equal("of copies 2 and 3, when it knows", list.copyOf(2), 2);
    }

    private static void lowestCopyOfTwoHomesAsNear() {
        UnionList list = listed(1, 3);
        list.request(2, 0);
        Check.equal("home 1 holds the lower one", list.copyOf(0), 0);
        UnionList turned = listed(3, 1);
        turned.request(2, 0);
        Check.equal("home 3 holds the lower one", turned.copyOf(0), 0);
        Check.equal("which is at home 3", turned.inHandsOf(0), 3);
    }

    private static void lowestOfTheKnownOnes() {
        UnionList list = new UnionList();
        list.addCopy(3, 0);
        list.addCopy(1, 0);
        list.pass(3);
        list.request(2, 0);
        Check.equal("the lower one isn't known", list.copyOf(0), 1);
        list.pass(1);
        list.request(2, 0);
        Check.equal("it is now", list.copyOf(1), 0);
    }

    // ---- "The question arrives at that home behind the way between it and the house."

    private static void asksOnTheDayOfTheRequest() {
        UnionList list = listed(3);
        list.request(1, 0);
        Check.equal("asking at once", list.state(0), UnionList.ASKING);
        Check.equal("for the copy", list.copyOf(0), 0);
        Check.equal("not there on the second day", list.pass(2), 0);
        Check.equal("there on the third", list.pass(1), 1);
    }

    private static void questionOfTheLastDay() {
        UnionList list = listed(0);
        for (int request = 0; request < 40; request++) {
            list.request(5, 0);
        }
        Check.equal("none of 40 is there before", list.pass(5), 0);
        Check.equal("all of them are", list.pass(1), 40);
        Check.equal("the first has the copy", list.state(0), UnionList.COMING);
        for (int request = 1; request < 40; request++) {
            failed("the others", list, request);
        }
    }

    // ---- "If that copy is free then, it is sent to the house"; "If it is not, the list asks the next home"

    private static void refusedForEachReason() {
        UnionList away = Scenes.coming();
        away.request(5, 0);
        away.pass(3);
        failed("the copy is at another house", away, 1);
        UnionList onItsWay = Scenes.coming();
        onItsWay.request(2, 0);
        onItsWay.pass(2);
        Check.equal("on its way still", onItsWay.state(0), UnionList.COMING);
        failed("the copy is on its way out", onItsWay, 1);
        UnionList goingHome = Scenes.goingBack();
        goingHome.request(4, 0);
        goingHome.pass(2);
        Check.equal("going back still", goingHome.state(0), UnionList.GOING_BACK);
        failed("the copy is on its way home", goingHome, 1);
        UnionList harmed = Scenes.asking();
        harmed.pass(2);
        spoil(harmed, 0);
        harmed.pass(1);
        failed("harm became known a day before", harmed, 0);
    }

    private static void harmThatNobodyKnowsIsSent() {
        UnionList list = Scenes.asking();
        list.harm(0);
        list.pass(3);
        Check.equal("unknown harm hinders nothing", list.state(0), UnionList.COMING);
        list.pass(3);
        Check.equal("it arrives harmed", list.state(0), UnionList.LOAN);
        Check.equal("found at the house", list.look(0), Scenes.HOME);
    }

    private static void freeWhenTheQuestionArrives() {
        UnionList list = listed(3);
        spoil(list, 0);
        list.request(1, 0);
        list.pass(2);
        list.mend(0);
        list.pass(1);
        Check.equal("not free at the request, mended a day before", list.state(0), UnionList.COMING);
    }

    // ---- "and were not asked for this request"

    private static void homeIsAskedOnceForARequest() {
        UnionList list = listed(1, 1, 4);
        spoil(list, 0);
        list.request(2, 0);
        list.pass(2);
        Check.equal("not the free one of the home that was asked", list.copyOf(0), 2);
        spoil(list, 2);
        list.pass(3);
        failed("though copy 1 is free and known as free", list, 0);
        Check.equal("free", list.isFree(1), true);
        Check.equal("known as free", list.listed(1), 1);
    }

    private static void homeIsAskedAgainForAnotherRequest() {
        UnionList list = listed(1);
        spoil(list, 0);
        list.request(2, 0);
        list.pass(2);
        failed("refused", list, 0);
        list.mend(0);
        list.request(2, 0);
        Check.equal("asked for another request of the same house", list.copyOf(1), 0);
        list.pass(2);
        Check.equal("and sent", list.state(1), UnionList.COMING);
    }

    private static void asksFiveHomesOneAfterTheOther() {
        UnionList list = listed(5, 4, 3, 2, 1, 0);
        spoil(list, 0, 1, 2, 3, 4);
        list.request(0, 0);
        for (int home = 1; home <= 5; home++) {
            Check.equal("asks home " + home, list.copyOf(0), 5 - home);
            Check.equal("nothing arrives before", list.pass(home), 0);
            Check.equal("asking", list.state(0), UnionList.ASKING);
            Check.equal("the question arrives at home " + home, list.pass(1), 1);
        }
        failed("every home but its own was asked", list, 0);
        Check.equal("2 + 3 + 4 + 5 + 6 days", list.today(), 6 + 20);
        Check.equal("nothing is on its way", list.pass(100), 0);

        UnionList inOneGo = listed(5, 4, 3, 2, 1, 0);
        spoil(inOneGo, 0, 1, 2, 3, 4);
        inOneGo.request(0, 0);
        Check.equal("a day before the last refusal", inOneGo.pass(19), 4);
        Check.equal("asking", inOneGo.state(0), UnionList.ASKING);
        inOneGo.mend(0);
        Check.equal("the last question", inOneGo.pass(1), 1);
        Check.equal("the last home sends it", inOneGo.state(0), UnionList.COMING);
    }

    // ---- "the list asks the next home on the same day, by what it knows then"

    private static void asksTheNextOnTheSameDay() {
        UnionList list = listed(2, 4);
        spoil(list, 0);
        list.request(1, 0);
        list.pass(2);
        Check.equal("asks home 4", list.copyOf(0), 1);
        Check.equal("behind 4 days from that day", list.pass(3), 0);
        Check.equal("the question", list.pass(1), 1);
        Check.equal("coming", list.state(0), UnionList.COMING);
    }

    private static void nextByWhatTheListKnowsThen() {
        UnionList list = listed(2);
        spoil(list, 0);
        list.request(4, 0);
        list.addCopy(0, 0);
        list.pass(3);
        Check.equal("unknown at the request, known at the refusal", list.copyOf(0), 1);
        Check.equal("asking", list.state(0), UnionList.ASKING);
        list.pass(5);
        Check.equal("coming", list.state(0), UnionList.COMING);
    }

    private static void nextIsNotWhatIsKnownAsSentAwayByThen() {
        UnionList list = listed(2, 0);
        spoil(list, 0);
        list.request(1, 0);
        list.pass(2);
        Check.equal("house 1 asks home 0 behind home 2", list.copyOf(0), 1);
        list.pass(2);
        Check.equal("home 0 sends it", list.state(0), UnionList.COMING);
        list.request(3, 0);
        Check.equal("house 3 asks home 2 first", list.copyOf(1), 0);
        Check.equal("the list knows copy 1 as free still", list.listed(1), 1);
        list.pass(2);
        Check.equal("it knows that it was sent away", list.listed(1), 0);
        failed("no home is left", list, 1);
    }

    private static void nextMayBeNearerThanTheLast() {
        UnionList list = listed(5);
        spoil(list, 0);
        list.request(0, 0);
        list.addCopy(1, 0);
        list.pass(5);
        list.addCopy(0, 0);
        list.pass(1);
        Check.equal("home 1, which was unknown before", list.copyOf(0), 1);
        list.pass(2);
        Check.equal("behind 2 days", list.state(0), UnionList.COMING);
    }

    private static void failedStaysFailed() {
        UnionList list = listed(1);
        list.request(2, 3);
        list.addCopy(1, 3);
        list.pass(100);
        failed("a copy that comes later", list, 0);
        Check.equal("is asked for by another request", list.copyOf(list.request(2, 3)), 1);
    }
}
