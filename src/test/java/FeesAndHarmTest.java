/** The sentences of "Terms" on fees and harm, and promises 18 to 20, at their edges. */
public final class FeesAndHarmTest {
    public static void main(String[] args) {
        feeWhenTheLoanArrives();
        houseOfTwoAndOfThreeCopies();
        copiesOfAllTitlesAndPlacesCount();
        thirdCopyOnTheDayOfTheArrival();
        thirdCopyBehindTheArrival();
        thirdCopyKeepsTheCount();
        firstTwoLoansOfAQuarter();
        lastAndFirstDayOfAQuarter();
        eachQuarterBeginsAnew();
        quotaIsEachHousesOwn();
        requestsAndFailuresLeaveTheQuota();
        quotaBehindSettleAndSendBack();
        owesIsTheDifference();
        owesBelowZero();
        pairsAreApart();
        settleOfNothing();
        settleCountsEachPairOnce();
        settleCountsBothDirections();
        settleLeavesOutEvenPairs();
        settleOfEveryPair();
        settleLeavesWhatIsNotYetKnown();
        harmInEachHands();
        harmOfTheHomeCostsNothing();
        harmCountsOnce();
        harmIsGoneWhenMended();
        harmAgainWhenMended();
        harmOfHouse0AndHouse5();
        Check.finish();
    }

    /** Home 5 holds a copy of each title, so that house 0 can borrow them as it needs; their way takes 6 days. */
    private static UnionList stocked() {
        UnionList list = new UnionList();
        for (int title = 0; title <= 7; title++) {
            list.addCopy(5, title);
        }
        list.pass(6);
        return list;
    }

    /** Makes a request that arrives as a loan on a day; the way between the two houses takes 6 days. */
    private static void loanOnDay(UnionList list, int day, int title) {
        Scenes.waitUntil(list, day - 12);
        int request = list.request(0, title);
        Scenes.waitUntil(list, day - 1);
        Check.equal("coming a day before", list.state(request), UnionList.COMING);
        list.pass(1);
        Check.equal("a loan on the day", list.due(request), day + 20);
    }

    private static void own(UnionList list, int copies) {
        for (int i = 0; i < copies; i++) {
            list.addCopy(0, i % 8);
        }
    }

    // ---- "When a loan arrives, the house owes the home 6; but a house that is the home of at most 2 copies by then"

    private static void feeWhenTheLoanArrives() {
        UnionList list = stocked();
        own(list, 3);
        list.request(0, 0);
        list.pass(11);
        Check.equal("nothing a day before", list.owes(0, 5), 0);
        list.pass(1);
        Check.equal("6 on the day", list.owes(0, 5), 6);
        list.pass(8);
        Check.equal("and no more", list.owes(0, 5), 6);
        Check.equal("nothing free", list.quota(0), 0);
    }

    private static void houseOfTwoAndOfThreeCopies() {
        for (int copies = 0; copies <= 4; copies++) {
            UnionList list = stocked();
            own(list, copies);
            loanOnDay(list, 18, 0);
            boolean small = copies <= 2;
            Check.equal("owes with " + copies, list.owes(0, 5), small ? 0 : 6);
            Check.equal("quota with " + copies, list.quota(0), small ? 1 : 0);
        }
    }

    /** "is the home of": a copy that is lent or harmed has its home still, and a copy that is borrowed has another. */
    private static void copiesOfAllTitlesAndPlacesCount() {
        UnionList list = new UnionList();
        list.addCopy(0, 1);
        list.addCopy(0, 1);
        list.addCopy(0, 2);
        list.addCopy(1, 0);
        list.addCopy(1, 3);
        list.pass(2);
        list.request(1, 1);
        list.harm(2);
        list.look(2);
        list.pass(4);
        Check.equal("one of three is lent", list.state(0), UnionList.LOAN);
        list.request(0, 0);
        list.pass(4);
        Check.equal("it is the home of three", list.owes(0, 1), 6);
        Check.equal("the other one of two, though three are with it", list.quota(1), 1);
    }

    private static void thirdCopyOnTheDayOfTheArrival() {
        UnionList list = stocked();
        own(list, 2);
        list.request(0, 0);
        list.pass(11);
        own(list, 1);
        list.pass(1);
        Check.equal("added a day before", list.owes(0, 5), 6);
        Check.equal("so nothing is free", list.quota(0), 0);
    }

    private static void thirdCopyBehindTheArrival() {
        UnionList list = stocked();
        own(list, 2);
        loanOnDay(list, 18, 0);
        own(list, 1);
        Check.equal("the loan that arrived before stays free", list.owes(0, 5), 0);
        Check.equal("and counts", list.quota(0), 1);
    }

    /** "Returns for how many loans that arrived in the present quarter so far a house owes nothing; not how many such loans are left." */
    private static void thirdCopyKeepsTheCount() {
        UnionList list = stocked();
        own(list, 2);
        loanOnDay(list, 18, 0);
        own(list, 1);
        loanOnDay(list, 30, 1);
        Check.equal("paid by a house that has grown", list.owes(0, 5), 6);
        Check.equal("one was free so far", list.quota(0), 1);
        loanOnDay(list, 90, 2);
        Check.equal("none in the next quarter", list.quota(0), 0);
        Check.equal("paid", list.owes(0, 5), 12);
    }

    // ---- "owes nothing for the first 2 loans that arrive in a quarter"

    private static void firstTwoLoansOfAQuarter() {
        UnionList list = stocked();
        Check.equal("none so far", list.quota(0), 0);
        loanOnDay(list, 18, 0);
        Check.equal("the first", list.quota(0), 1);
        Check.equal("free", list.owes(0, 5), 0);
        loanOnDay(list, 30, 1);
        Check.equal("the second", list.quota(0), 2);
        Check.equal("free", list.owes(0, 5), 0);
        loanOnDay(list, 42, 2);
        Check.equal("the third doesn't count", list.quota(0), 2);
        Check.equal("it is paid", list.owes(0, 5), 6);
        loanOnDay(list, 54, 3);
        Check.equal("nor the fourth", list.quota(0), 2);
        Check.equal("it is paid", list.owes(0, 5), 12);
    }

    /** "a quarter is 90 days, from the day 0 on": its last day is 89, the next one's first is 90. */
    private static void lastAndFirstDayOfAQuarter() {
        UnionList last = stocked();
        loanOnDay(last, 30, 0);
        loanOnDay(last, 42, 1);
        loanOnDay(last, 89, 2);
        Check.equal("paid on day 89", last.owes(0, 5), 6);
        Check.equal("two were free", last.quota(0), 2);
        last.pass(1);
        Check.equal("none on day 90", last.quota(0), 0);

        UnionList first = stocked();
        loanOnDay(first, 30, 0);
        loanOnDay(first, 42, 1);
        loanOnDay(first, 90, 2);
        Check.equal("free on day 90", first.owes(0, 5), 0);
        Check.equal("the first of its quarter", first.quota(0), 1);

        UnionList both = stocked();
        loanOnDay(both, 89, 0);
        Check.equal("counts for the first quarter", both.quota(0), 1);
        loanOnDay(both, 101, 1);
        Check.equal("the second quarter has one", both.quota(0), 1);
        loanOnDay(both, 113, 2);
        loanOnDay(both, 125, 3);
        Check.equal("and two free at most", both.quota(0), 2);
        Check.equal("one is paid", both.owes(0, 5), 6);
    }

    private static void eachQuarterBeginsAnew() {
        UnionList list = stocked();
        int[] days = {18, 90, 180, 270, 359};
        int[] counts = {1, 1, 1, 1, 2};
        for (int i = 0; i < days.length; i++) {
            loanOnDay(list, days[i], i);
            Check.equal("quota on day " + days[i], list.quota(0), counts[i]);
        }
        list.pass(1);
        Check.equal("quota on day 360", list.quota(0), 0);
        loanOnDay(list, 449, 5);
        list.pass(100);
        Check.equal("a quarter's end within one pass", list.quota(0), 0);
        Check.equal("nothing was paid", list.owes(0, 5), 0);
    }

    private static void quotaIsEachHousesOwn() {
        UnionList list = stocked();
        list.request(0, 0);
        list.request(0, 1);
        list.request(4, 2);
        list.request(0, 3);
        list.pass(12);
        Check.equal("house 0", list.quota(0), 2);
        Check.equal("house 4", list.quota(4), 1);
        Check.equal("house 3", list.quota(3), 0);
        Check.equal("the home", list.quota(5), 0);
        Check.equal("the third of house 0", list.owes(0, 5), 6);
        Check.equal("house 4 owes nothing", list.owes(4, 5), 0);
    }

    private static void requestsAndFailuresLeaveTheQuota() {
        UnionList list = stocked();
        list.harm(0);
        list.look(0);
        list.request(0, 0);
        list.request(5, 0);
        list.pass(20);
        Check.equal("both failed", list.state(0) + list.state(1), 2 * UnionList.FAILED);
        Check.equal("no loan", list.quota(0), 0);
        list.request(0, 1);
        list.pass(11);
        Check.equal("not before the loan arrives", list.quota(0), 0);
        list.pass(1);
        Check.equal("when it arrives", list.quota(0), 1);
    }

    private static void quotaBehindSettleAndSendBack() {
        UnionList list = stocked();
        loanOnDay(list, 18, 0);
        loanOnDay(list, 30, 1);
        list.settle();
        Check.equal("settle leaves it", list.quota(0), 2);
        list.sendBack(0);
        list.pass(6);
        Check.equal("sendBack and home leave it", list.quota(0), 2);
        loanOnDay(list, 48, 2);
        Check.equal("so that the third is paid", list.owes(0, 5), 6);
    }

    // ---- promise 18: "Returns what a house owes another one, less what that owes it."

    /** Houses 1 and 4 hold three copies each, of the titles 1 and 4, so that both pay; their way takes 4 days. */
    private static UnionList twoBigHouses() {
        UnionList list = new UnionList();
        for (int i = 0; i < 3; i++) {
            list.addCopy(1, 1);
            list.addCopy(4, 4);
        }
        list.pass(5);
        return list;
    }

    private static void borrow(UnionList list, int house, int title) {
        list.request(house, title);
        list.pass(12);
    }

    private static void owesIsTheDifference() {
        UnionList list = twoBigHouses();
        borrow(list, 1, 4);
        Check.equal("6", list.owes(1, 4), 6);
        borrow(list, 4, 1);
        Check.equal("6 less 6", list.owes(1, 4), 0);
        Check.equal("6 less 6", list.owes(4, 1), 0);
        borrow(list, 4, 1);
        Check.equal("6 less 12", list.owes(1, 4), -6);
        Check.equal("12 less 6", list.owes(4, 1), 6);
    }

    /** "Returns the sum, below 0 if the other one owes more." */
    private static void owesBelowZero() {
        UnionList list = twoBigHouses();
        borrow(list, 1, 4);
        Check.equal("the one who owes", list.owes(1, 4), 6);
        Check.equal("the one who is owed", list.owes(4, 1), -6);
        Check.equal("itself", list.owes(1, 1), 0);
    }

    private static void pairsAreApart() {
        UnionList list = twoBigHouses();
        borrow(list, 1, 4);
        for (int house = 0; house <= 5; house++) {
            for (int other = 0; other <= 5; other++) {
                int due = house == 1 && other == 4 ? 6 : house == 4 && other == 1 ? -6 : 0;
                Check.equal("house " + house + " and " + other, list.owes(house, other), due);
            }
        }
    }

    // ---- promise 19

    private static void settleOfNothing() {
        UnionList list = new UnionList();
        Check.equal("a new object", list.settle(), 0);
        Check.equal("once more", list.settle(), 0);
        Check.equal("free loans owe nothing", freeLoan().settle(), 0);
    }

    private static UnionList freeLoan() {
        UnionList list = stocked();
        loanOnDay(list, 18, 0);
        return list;
    }

    private static void settleCountsEachPairOnce() {
        UnionList list = twoBigHouses();
        borrow(list, 1, 4);
        borrow(list, 1, 4);
        Check.equal("two debts of one pair", list.owes(1, 4), 12);
        Check.equal("one pair", list.settle(), 1);
        Check.equal("nothing is owed", list.owes(1, 4), 0);
        Check.equal("nor the other way", list.owes(4, 1), 0);
        Check.equal("nothing to settle", list.settle(), 0);
    }

    private static void settleCountsBothDirections() {
        UnionList lower = twoBigHouses();
        borrow(lower, 1, 4);
        Check.equal("the lower house owes", lower.settle(), 1);
        UnionList higher = twoBigHouses();
        borrow(higher, 4, 1);
        Check.equal("the higher house owes", higher.settle(), 1);
        UnionList both = twoBigHouses();
        borrow(both, 1, 4);
        borrow(both, 4, 1);
        borrow(both, 4, 1);
        Check.equal("both owe, one more", both.settle(), 1);
        Check.equal("nothing is owed", both.owes(4, 1), 0);
    }

    /** "of which one owed the other one something, all taken together" */
    private static void settleLeavesOutEvenPairs() {
        UnionList list = twoBigHouses();
        borrow(list, 1, 4);
        borrow(list, 4, 1);
        Check.equal("even when all is taken together", list.settle(), 0);
        borrow(list, 1, 4);
        Check.equal("what comes behind it counts alone", list.owes(1, 4), 6);
        Check.equal("one pair", list.settle(), 1);
    }

    private static void settleOfEveryPair() {
        UnionList list = new UnionList();
        for (int title = 0; title < 5; title++) {
            list.addCopy(title, title);
        }
        for (int step = 0; step < 5; step++) {
            lendToAllAbove(list);
        }
        int uneven = 0;
        for (int house = 0; house <= 5; house++) {
            for (int other = 0; other < house; other++) {
                uneven += list.owes(house, other) != 0 ? 1 : 0;
            }
        }
        Check.equal("every house owes all below it", uneven, 15);
        Check.equal("15 pairs", list.settle(), 15);
        Check.equal("none is left", list.settle(), 0);
    }

    /** Each copy goes to the next house above its home that hasn't had it, is kept too long and comes back. */
    private static void lendToAllAbove(UnionList list) {
        list.pass(100);
        int first = -1;
        for (int title = 0; title < 5; title++) {
            for (int house = title + 1; house <= 5; house++) {
                if (list.owes(house, title) == 0) {
                    int request = list.request(house, title);
                    first = first < 0 ? request : first;
                    break;
                }
            }
        }
        list.pass(50);
        for (int request = first; request >= 0 && request < 40 && made(list, request); request++) {
            Check.equal("late", list.sendBack(request) > 0, true);
        }
    }

    private static boolean made(UnionList list, int request) {
        try {
            return list.state(request) >= 0;
        } catch (IndexOutOfBoundsException e) {
            return false;
        }
    }

    private static void settleLeavesWhatIsNotYetKnown() {
        UnionList list = Scenes.lentAndQuiet();
        list.harm(0);
        Scenes.waitUntil(list, Scenes.DUE_ON + 3);
        Check.equal("nothing is owed for what isn't known or sent back", list.settle(), 0);
        list.sendBack(0);
        Check.equal("3 days late", list.settle(), 1);
        list.pass(Scenes.WAY);
        Check.equal("the harm", list.owes(Scenes.HOUSE, Scenes.HOME), 30);
        Check.equal("one pair", list.settle(), 1);
    }

    // ---- "Then the house in whose hands it was when it was harmed owes the home 30, unless it is the home."

    private static void harmInEachHands() {
        UnionList house = Scenes.lentAndQuiet();
        Check.equal("at the house", house.harm(0), Scenes.HOUSE);
        Check.equal("not before it is known", house.owes(Scenes.HOUSE, Scenes.HOME), 0);
        Check.equal("known", house.look(0), Scenes.HOUSE);
        Check.equal("30", house.owes(Scenes.HOUSE, Scenes.HOME), 30);

        UnionList back = Scenes.goingBack();
        Check.equal("on its way home", back.harm(0), Scenes.HOUSE);
        back.pass(Scenes.WAY);
        Check.equal("30", back.owes(Scenes.HOUSE, Scenes.HOME), 30);

        UnionList later = Scenes.over();
        later.pass(Scenes.WAY_TO_LIST);
        Check.equal("home again", later.harm(0), Scenes.HOME);
        later.request(5, 0);
        later.pass(6);
        Check.equal("lent to another house", later.inHandsOf(0), 5);
        Check.equal("found there", later.look(0), Scenes.HOME);
        Check.equal("which owes nothing for it", later.owes(5, Scenes.HOME), 0);
    }

    private static void harmOfTheHomeCostsNothing() {
        UnionList home = Scenes.listedAtHome();
        home.harm(0);
        Check.equal("at home", home.look(0), Scenes.HOME);
        Check.equal("nothing", home.settle(), 0);
        UnionList out = Scenes.coming();
        Check.equal("on its way out", out.harm(0), Scenes.HOME);
        out.pass(Scenes.WAY);
        out.sendBack(0);
        out.pass(Scenes.WAY);
        Check.equal("found when it came home", out.isFree(0), false);
        Check.equal("nothing", out.settle(), 0);
    }

    private static void harmCountsOnce() {
        UnionList list = Scenes.lentAndQuiet();
        list.harm(0);
        Check.equal("known by this", list.look(0), Scenes.HOUSE);
        Check.equal("known before", list.look(0), -1);
        Check.equal("30", list.owes(Scenes.HOUSE, Scenes.HOME), 30);
        list.sendBack(0);
        list.pass(Scenes.WAY);
        Check.equal("looked at at home, known before", list.owes(Scenes.HOUSE, Scenes.HOME), 30);
        Check.equal("known before", list.look(0), -1);
        Check.equal("30 still", list.owes(Scenes.HOUSE, Scenes.HOME), 30);
    }

    /** "Harm is gone when the copy is mended." */
    private static void harmIsGoneWhenMended() {
        UnionList list = Scenes.listedAtHome();
        list.harm(0);
        list.look(0);
        list.mend(0);
        Check.equal("free at once", list.isFree(0), true);
        Check.equal("nothing to be seen", list.look(0), -1);
        Check.badState("nothing to mend", () -> list.mend(0));
        list.request(Scenes.HOUSE, 0);
        list.pass(2 * Scenes.WAY);
        Check.equal("lent", list.state(0), UnionList.LOAN);
        Check.equal("nothing to be seen at the house", list.look(0), -1);
    }

    private static void harmAgainWhenMended() {
        UnionList list = Scenes.goingBack();
        list.harm(0);
        list.pass(Scenes.WAY);
        list.mend(0);
        Check.equal("the debt stays when it is mended", list.owes(Scenes.HOUSE, Scenes.HOME), 30);
        Check.equal("harmed by the home", list.harm(0), Scenes.HOME);
        Check.equal("known", list.look(0), Scenes.HOME);
        Check.equal("no more is owed", list.owes(Scenes.HOUSE, Scenes.HOME), 30);
        list.mend(0);
        list.pass(Scenes.WAY_TO_LIST);
        list.request(Scenes.HOUSE, 0);
        list.pass(2 * Scenes.WAY);
        Check.equal("harmed by the house again", list.harm(0), Scenes.HOUSE);
        Check.equal("known", list.look(0), Scenes.HOUSE);
        Check.equal("30 more", list.owes(Scenes.HOUSE, Scenes.HOME), 60);
    }

    private static void harmOfHouse0AndHouse5() {
        for (int house = 0; house <= 5; house += 5) {
            UnionList list = new UnionList();
            list.addCopy(2, 0);
            list.pass(3);
            list.request(house, 0);
            list.pass(8);
            Check.equal("in the hands of house " + house, list.harm(0), house);
            Check.equal("known of house " + house, list.look(0), house);
            Check.equal("owed by house " + house, list.owes(house, 2), 30);
            list.sendBack(0);
            list.pass(4);
            list.mend(0);
            Check.equal("mended", list.isFree(0), true);
        }
    }
}
