/** Promises 9 to 15. */
public final class RequestsTest {
    private static final int[] NO_SUCH = {-1, 20, 40, Integer.MIN_VALUE, Integer.MAX_VALUE};

    public static void main(String[] args) {
        promise9RequestRangesAndRoom();
        promise9NothingListedFails();
        promise9OwnCopiesAndOtherTitles();
        promise9ShortestWayThenLowestCopy();
        promise9EveryHomeIsAskedOnce();
        promise9AsksByWhatItKnowsThen();
        promise9FirstQuestionTakesTheCopy();
        promise10State();
        promise11CopyOf();
        promise12Due();
        promise13Renew();
        promise13RenewalsThatComeTooLate();
        promise14Recall();
        promise14RecallOvertakesRenewal();
        promise15SendBack();
        promise15SendBackLate();
        Check.finish();
    }

    private static void promise9RequestRangesAndRoom() {
        UnionList list = new UnionList();
        int[] badHouses = {-1, 6, Integer.MIN_VALUE, Integer.MAX_VALUE};
        int[] badTitles = {-1, 8, Integer.MIN_VALUE, Integer.MAX_VALUE};
        for (int house : badHouses) {
            Check.badArgument("house " + house, () -> list.request(house, 0));
        }
        for (int title : badTitles) {
            Check.badArgument("title " + title, () -> list.request(0, title));
        }
        for (int i = 0; i < 40; i++) {
            Check.equal("number", list.request(i % 6, i % 8), i);
        }
        Check.badState("the 41st request", () -> list.request(0, 0));
        Check.badArgument("house comes before room", () -> list.request(-1, 0));
        Check.badArgument("title comes before room", () -> list.request(0, -1));
        Check.badIndex("no request 40", () -> list.state(40));
    }

    private static void promise9NothingListedFails() {
        UnionList list = new UnionList();
        list.addCopy(5, 0);
        list.pass(5);
        list.request(0, 0);
        Check.equal("free, but not known to be", list.state(0), UnionList.FAILED);
        list.pass(1);
        Check.equal("failed for ever", list.state(0), UnionList.FAILED);
        list.request(0, 0);
        Check.equal("known by now", list.state(1), UnionList.ASKING);
    }

    private static void promise9OwnCopiesAndOtherTitles() {
        UnionList list = new UnionList();
        list.addCopy(3, 0);
        list.addCopy(2, 1);
        list.pass(6);
        list.request(3, 0);
        Check.equal("its own copy isn't asked for", list.state(0), UnionList.FAILED);
        list.request(3, 2);
        Check.equal("no copy of the title", list.state(1), UnionList.FAILED);
        list.request(3, 1);
        Check.equal("the other's copy is", list.copyOf(2), 1);
        Check.equal("one question", list.pass(2), 1);
    }

    private static void promise9ShortestWayThenLowestCopy() {
        UnionList list = new UnionList();
        list.addCopy(5, 0);
        list.addCopy(1, 0);
        list.addCopy(3, 0);
        list.addCopy(1, 0);
        list.pass(6);
        list.request(2, 0);
        Check.equal("homes 1 and 3 are as near, copy 1 is the lowest", list.copyOf(0), 1);
        list.request(4, 0);
        Check.equal("homes 5 and 3 are as near, copy 0 is the lowest", list.copyOf(1), 0);
        list.request(0, 0);
        Check.equal("home 1 is nearest", list.copyOf(2), 1);
        list.request(3, 0);
        Check.equal("its own is left out; home 1 and 5 are as near", list.copyOf(3), 0);
        list.request(5, 0);
        Check.equal("home 3 is nearest", list.copyOf(4), 2);
    }

    private static void promise9EveryHomeIsAskedOnce() {
        UnionList list = new UnionList();
        list.addCopy(1, 0);
        list.addCopy(1, 0);
        list.addCopy(3, 0);
        list.pass(4);
        for (int copy = 0; copy < 3; copy++) {
            list.harm(copy);
            list.look(copy);
        }
        list.mend(1);
        list.pass(2);
        list.request(0, 0);
        Check.equal("asks for the lowest of home 1", list.copyOf(0), 0);
        Check.equal("one question", list.pass(2), 1);
        Check.equal("not for the other one of the same home", list.copyOf(0), 2);
        Check.equal("asking", list.state(0), UnionList.ASKING);
        list.pass(3);
        Check.equal("not before the question arrives", list.state(0), UnionList.ASKING);
        Check.equal("the second question", list.pass(1), 1);
        Check.equal("no home is left", list.state(0), UnionList.FAILED);
        Check.equal("no copy", list.copyOf(0), -1);
        Check.equal("nothing is on its way", list.pass(10), 0);
    }

    private static void promise9AsksByWhatItKnowsThen() {
        UnionList list = new UnionList();
        list.addCopy(1, 0);
        list.pass(2);
        list.harm(0);
        list.look(0);
        list.addCopy(1, 0);
        list.request(0, 0);
        list.addCopy(0, 0);
        list.pass(2);
        Check.equal("listed since, of a home that was asked", list.listed(1), 1);
        Check.equal("listed since, its own", list.listed(2), 1);
        Check.equal("neither is asked for", list.state(0), UnionList.FAILED);

        UnionList later = new UnionList();
        later.addCopy(1, 0);
        later.pass(2);
        later.harm(0);
        later.look(0);
        later.addCopy(2, 0);
        later.pass(1);
        later.request(0, 0);
        later.pass(2);
        Check.equal("the message was sent first", later.copyOf(0), 1);

        UnionList tooLate = new UnionList();
        tooLate.addCopy(3, 0);
        tooLate.pass(4);
        tooLate.harm(0);
        tooLate.look(0);
        tooLate.request(1, 0);
        tooLate.addCopy(2, 0);
        tooLate.pass(3);
        Check.equal("the question was sent first", tooLate.state(0), UnionList.FAILED);
        Check.equal("though the message came on the same day", tooLate.listed(1), 1);
    }

    private static void promise9FirstQuestionTakesTheCopy() {
        UnionList list = new UnionList();
        list.addCopy(2, 0);
        list.addCopy(5, 0);
        list.pass(6);
        list.request(1, 0);
        list.request(3, 0);
        Check.equal("both ask for the same copy", list.copyOf(0) + list.copyOf(1), 0);
        list.pass(2);
        Check.equal("the first has it", list.state(0), UnionList.COMING);
        Check.equal("the second asks on", list.copyOf(1), 1);
        list.pass(3);
        Check.equal("at home 5", list.state(1), UnionList.COMING);
    }

    private static void promise10State() {
        UnionList list = new UnionList();
        Runs.noSuch(NO_SUCH, list::state);
        list.addCopy(4, 6);
        list.pass(5);
        list.request(2, 6);
        list.pass(2);
        Check.equal("asking", list.state(0), UnionList.ASKING);
        list.pass(1);
        Check.equal("coming", list.state(0), UnionList.COMING);
        list.pass(2);
        Check.equal("coming still", list.state(0), UnionList.COMING);
        list.pass(1);
        Check.equal("lent", list.state(0), UnionList.LOAN);
        list.sendBack(0);
        Check.equal("going back", list.state(0), UnionList.GOING_BACK);
        list.pass(2);
        Check.equal("going back still", list.state(0), UnionList.GOING_BACK);
        list.pass(1);
        Check.equal("over", list.state(0), UnionList.OVER);
        Runs.noSuch(new int[] {1, -1}, list::state);
    }

    private static void promise11CopyOf() {
        UnionList list = new UnionList();
        Runs.noSuch(NO_SUCH, list::copyOf);
        list.addCopy(0, 0);
        list.addCopy(4, 6);
        list.pass(5);
        list.request(2, 6);
        Check.equal("asked for", list.copyOf(0), 1);
        list.pass(3);
        Check.equal("coming", list.copyOf(0), 1);
        list.pass(3);
        Check.equal("lent", list.copyOf(0), 1);
        list.sendBack(0);
        Check.equal("going back", list.copyOf(0), 1);
        list.pass(3);
        Check.equal("home again", list.copyOf(0), 1);
        list.request(2, 5);
        Check.equal("failed", list.copyOf(1), -1);
        Runs.noSuch(new int[] {2, -1}, list::copyOf);
    }

    private static void promise12Due() {
        UnionList list = new UnionList();
        Runs.noSuch(NO_SUCH, list::due);
        list.addCopy(4, 6);
        list.pass(5);
        list.request(2, 6);
        Check.badState("asking", () -> list.due(0));
        list.pass(3);
        Check.badState("coming", () -> list.due(0));
        list.pass(3);
        Check.equal("20 days behind its arrival on day 11", list.due(0), 31);
        list.pass(30);
        Check.equal("due stays when it is late", list.due(0), 31);
        list.sendBack(0);
        Check.badState("going back", () -> list.due(0));
        list.pass(3);
        Check.badState("over", () -> list.due(0));
        list.request(2, 5);
        Check.badState("failed", () -> list.due(1));
        Runs.noSuch(new int[] {2, -1}, list::due);
    }

    private static void promise13Renew() {
        UnionList list = new UnionList();
        Runs.noSuch(NO_SUCH, list::renew);
        list.addCopy(1, 0);
        list.pass(2);
        list.request(4, 0);
        Check.badState("asking", () -> list.renew(0));
        list.pass(4);
        Check.badState("coming", () -> list.renew(0));
        list.pass(4);
        Check.equal("due", list.due(0), 30);
        Check.equal("arrives behind the way", list.renew(0), 14);
        Check.equal("another one", list.renew(0), 14);
        list.pass(3);
        Check.equal("not there yet", list.due(0), 30);
        Check.equal("both arrive", list.pass(1), 2);
        Check.equal("20 days each", list.due(0), 70);
        list.pass(86);
        Check.equal("sent when it is late", list.renew(0), 104);
        list.pass(4);
        Check.equal("later than it was, not than the day", list.due(0), 90);
        list.sendBack(0);
        Check.badState("going back", () -> list.renew(0));
        list.pass(4);
        Check.badState("over", () -> list.renew(0));
        list.request(4, 7);
        Check.badState("failed", () -> list.renew(1));
        Runs.noSuch(new int[] {2, -1}, list::renew);
    }

    private static void promise13RenewalsThatComeTooLate() {
        UnionList list = new UnionList();
        Runs.lend(list, 0, 3, 0);
        list.renew(0);
        list.sendBack(0);
        Check.equal("both arrive all the same", list.pass(4), 2);
        Check.equal("over", list.state(0), UnionList.OVER);
        Check.badState("no loan any more", () -> list.due(0));
    }

    private static void promise14Recall() {
        UnionList list = new UnionList();
        Runs.noSuch(NO_SUCH, list::recall);
        list.addCopy(1, 0);
        list.pass(2);
        list.request(4, 0);
        Check.badState("asking", () -> list.recall(0));
        list.pass(4);
        Check.badState("coming", () -> list.recall(0));
        list.pass(4);
        Check.equal("arrives behind the way", list.recall(0), 14);
        Check.badState("sent already", () -> list.recall(0));
        list.pass(3);
        Check.equal("not there yet", list.due(0), 30);
        Check.equal("arrives", list.pass(1), 1);
        Check.equal("5 days behind that day", list.due(0), 19);
        Check.badState("arrived already", () -> list.recall(0));
        list.sendBack(0);
        Check.badState("going back", () -> list.recall(0));
        list.pass(4);
        Check.badState("over", () -> list.recall(0));
        list.request(4, 7);
        Check.badState("failed", () -> list.recall(1));
        Runs.noSuch(new int[] {2, -1}, list::recall);

        UnionList late = new UnionList();
        Runs.lend(late, 0, 1, 0);
        int due = late.due(0);
        late.pass(due - 5 - late.today());
        late.recall(0);
        late.pass(2);
        Check.equal("a recall never makes it due later", late.due(0), due);
    }

    private static void promise14RecallOvertakesRenewal() {
        UnionList list = new UnionList();
        Runs.lend(list, 0, 3, 0);
        int due = list.due(0);
        list.renew(0);
        list.pass(1);
        list.recall(0);
        list.pass(3);
        Check.equal("no renewal once a recall was sent", list.due(0), due);
        list.pass(1);
        Check.equal("recalled", list.due(0), list.today() + 5);
        int recalled = list.due(0);
        Check.equal("a renewal may be sent", list.renew(0), list.today() + 4);
        Check.equal("and arrives", list.pass(4), 1);
        Check.equal("without effect", list.due(0), recalled);

        UnionList first = new UnionList();
        Runs.lend(first, 0, 3, 0);
        due = first.due(0);
        first.renew(0);
        first.pass(4);
        first.recall(0);
        Check.equal("the renewal arrived before", first.due(0), due + 20);

        UnionList again = new UnionList();
        Runs.lend(again, 0, 1, 0);
        again.recall(0);
        again.sendBack(0);
        again.pass(3);
        again.request(1, 0);
        again.pass(4);
        Check.equal("a new loan of the same copy", again.recall(1), again.today() + 2);
    }

    private static void promise15SendBack() {
        UnionList list = new UnionList();
        Runs.noSuch(NO_SUCH, list::sendBack);
        list.addCopy(1, 0);
        list.pass(2);
        list.request(4, 0);
        Check.badState("asking", () -> list.sendBack(0));
        list.pass(4);
        Check.badState("coming", () -> list.sendBack(0));
        list.pass(4);
        Check.equal("early", list.sendBack(0), 0);
        Check.equal("owes nothing for it", list.owes(4, 1), 0);
        Check.badState("going back", () -> list.sendBack(0));
        list.pass(4);
        Check.badState("over", () -> list.sendBack(0));
        list.request(4, 7);
        Check.badState("failed", () -> list.sendBack(1));
        Runs.noSuch(new int[] {2, -1}, list::sendBack);
    }

    private static void promise15SendBackLate() {
        for (int late = -1; late < 3; late++) {
            UnionList list = new UnionList();
            Runs.lend(list, 2, 5, 0);
            list.pass(list.due(0) - list.today() + late);
            Check.equal("days late", list.sendBack(0), Math.max(0, late));
            Check.equal("1 for each", list.owes(5, 2), Math.max(0, late));
            list.pass(10);
            Check.equal("the way home costs nothing", list.owes(5, 2), Math.max(0, late));
        }
    }
}
