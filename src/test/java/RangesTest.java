import java.util.function.IntConsumer;

/** The last value that is allowed and the first that is refused on each side, for every argument; empty and full. */
public final class RangesTest {
    private static final int LEAST = Integer.MIN_VALUE;
    private static final int MOST = Integer.MAX_VALUE;

    public static void main(String[] args) {
        addCopyHome();
        addCopyTitle();
        addCopyUpTo20();
        addCopyWhenFullAndOutOfRange();
        copyNumbersOfEveryMethodWhenEmpty();
        copyNumbersOfEveryMethodWithOneCopy();
        copyNumbersOfEveryMethodWhenFull();
        requestHouse();
        requestTitle();
        requestUpTo40();
        requestWhenFullAndOutOfRange();
        requestNumbersOfEveryMethodWhenEmpty();
        requestNumbersOfEveryMethodWithOneRequest();
        requestNumbersOfEveryMethodWhenFull();
        copiesAndRequestsAreNumberedApart();
        passDays();
        owesHouse();
        owesOther();
        quotaHouse();
        Check.finish();
    }

    // Promise 2

    /** "home: 0 to 5"; "Throws IllegalArgumentException if home or title is out of range". */
    private static void addCopyHome() {
        UnionList list = new UnionList();
        argumentsRefused("addCopy home", new int[] {LEAST, -2, -1, 6, 7, MOST}, home -> list.addCopy(home, 0));
        for (int home = 0; home <= 5; home++) {
            Check.equal("copy of home " + home, list.addCopy(home, 0), home);
            Check.equal("is at home " + home, list.inHandsOf(home), home);
        }
    }

    /** "title: 0 to 7"; title 7 and title 0 are two titles, and none beside them is taken for one of them. */
    private static void addCopyTitle() {
        UnionList list = new UnionList();
        argumentsRefused("addCopy title", new int[] {LEAST, -2, -1, 8, 9, MOST}, title -> list.addCopy(0, title));
        for (int title = 0; title <= 7; title++) {
            Check.equal("copy of title " + title, list.addCopy(0, title), title);
        }
        list.pass(1);
        for (int title = 0; title <= 7; title++) {
            Check.equal("the copy of title " + title, list.copyOf(list.request(5, title)), title);
        }
    }

    /** "there are at most 20"; "Throws IllegalStateException if there are 20". */
    private static void addCopyUpTo20() {
        UnionList list = new UnionList();
        for (int number = 0; number < 20; number++) {
            Check.equal("copies are numbered from 0", list.addCopy(0, 0), number);
        }
        Check.badState("copy 21", () -> list.addCopy(0, 0));
        Check.badState("copy 21 of another home and title", () -> list.addCopy(5, 7));
        Check.equal("the last copy is there", list.isFree(19), true);
        Check.badIndex("none behind it", () -> list.isFree(20));
        Check.equal("a message of each and none of the refused", list.pass(100), 20);
    }

    /** "If several exceptions apply, the one that is documented first is thrown." */
    private static void addCopyWhenFullAndOutOfRange() {
        UnionList list = new UnionList();
        for (int number = 0; number < 20; number++) {
            list.addCopy(0, 0);
        }
        argumentsRefused("full, home", new int[] {LEAST, -1, 6, MOST}, home -> list.addCopy(home, 0));
        argumentsRefused("full, title", new int[] {LEAST, -1, 8, MOST}, title -> list.addCopy(0, title));
        Check.badArgument("full, both", () -> list.addCopy(6, 8));
    }

    // Promises 3 to 8

    /** "Throws IndexOutOfBoundsException if there is no such copy", of an object without copies. */
    private static void copyNumbersOfEveryMethodWhenEmpty() {
        noSuchCopies(new UnionList(), new int[] {LEAST, -1, 0, 1, 19, 20, MOST});
    }

    private static void copyNumbersOfEveryMethodWithOneCopy() {
        UnionList list = new UnionList();
        list.addCopy(2, 0);
        noSuchCopies(list, new int[] {LEAST, -1, 1, 2, 19, 20, MOST});
        everyMethodTakesCopy(list, 0, 2);
    }

    private static void copyNumbersOfEveryMethodWhenFull() {
        UnionList list = new UnionList();
        for (int number = 0; number < 20; number++) {
            list.addCopy(number == 0 ? 5 : number == 19 ? 4 : 1, 0);
        }
        noSuchCopies(list, new int[] {LEAST, -1, 20, 21, MOST});
        everyMethodTakesCopy(list, 0, 5);
        everyMethodTakesCopy(list, 19, 4);
    }

    private static void noSuchCopies(UnionList list, int[] numbers) {
        indexRefused("inHandsOf", numbers, list::inHandsOf);
        indexRefused("isFree", numbers, list::isFree);
        indexRefused("listed", numbers, list::listed);
        indexRefused("harm", numbers, list::harm);
        indexRefused("look", numbers, list::look);
        indexRefused("mend", numbers, list::mend);
    }

    private static void everyMethodTakesCopy(UnionList list, int copy, int home) {
        Check.equal("inHandsOf " + copy, list.inHandsOf(copy), home);
        Check.equal("isFree " + copy, list.isFree(copy), true);
        Check.equal("listed " + copy, list.listed(copy), -1);
        Check.equal("harm " + copy, list.harm(copy), home);
        Check.equal("look " + copy, list.look(copy), home);
        list.mend(copy);
        Check.equal("isFree when mended " + copy, list.isFree(copy), true);
    }

    // Promise 9

    /** "house: 0 to 5"; "Throws IllegalArgumentException if house or title is out of range". */
    private static void requestHouse() {
        UnionList list = new UnionList();
        argumentsRefused("request house", new int[] {LEAST, -2, -1, 6, 7, MOST}, house -> list.request(house, 0));
        for (int house = 0; house <= 5; house++) {
            Check.equal("request of house " + house, list.request(house, 0), house);
        }
    }

    /** "title: 0 to 7". */
    private static void requestTitle() {
        UnionList list = new UnionList();
        argumentsRefused("request title", new int[] {LEAST, -2, -1, 8, 9, MOST}, title -> list.request(0, title));
        for (int title = 0; title <= 7; title++) {
            Check.equal("request for title " + title, list.request(0, title), title);
        }
    }

    /** "Returns its number, from 0"; "Throws IllegalStateException if 40 were made"; the failed ones were made too. */
    private static void requestUpTo40() {
        UnionList list = new UnionList();
        list.addCopy(0, 0);
        list.pass(1);
        for (int number = 0; number < 40; number++) {
            Check.equal("requests are numbered from 0", list.request(5, number % 2), number);
        }
        Check.badState("request 41", () -> list.request(5, 0));
        Check.badState("request 41 that would fail", () -> list.request(0, 7));
        Check.equal("the last one is there", list.state(39), UnionList.FAILED);
        Check.equal("the last one that asks is there", list.state(38), UnionList.ASKING);
        Check.equal("a question of each that asks and none of the refused", list.pass(6), 20);
        list.pass(100);
        Check.badState("request 41 when all are lent or have failed", () -> list.request(5, 0));
    }

    /** "If several exceptions apply, the one that is documented first is thrown." */
    private static void requestWhenFullAndOutOfRange() {
        UnionList list = new UnionList();
        for (int number = 0; number < 40; number++) {
            list.request(0, 0);
        }
        argumentsRefused("full, house", new int[] {LEAST, -1, 6, MOST}, house -> list.request(house, 0));
        argumentsRefused("full, title", new int[] {LEAST, -1, 8, MOST}, title -> list.request(0, title));
        Check.badArgument("full, both", () -> list.request(-1, 8));
    }

    // Promises 10 to 15

    /** "Throws IndexOutOfBoundsException if there is no such request", of an object without requests. */
    private static void requestNumbersOfEveryMethodWhenEmpty() {
        noSuchRequests(new UnionList(), new int[] {LEAST, -1, 0, 1, 39, 40, MOST});
    }

    private static void requestNumbersOfEveryMethodWithOneRequest() {
        UnionList list = Scenes.lent();
        noSuchRequests(list, new int[] {LEAST, -1, 1, 2, 39, 40, MOST});
        everyMethodTakesLoan(list, 0, 0);
    }

    private static void requestNumbersOfEveryMethodWhenFull() {
        UnionList list = new UnionList();
        list.addCopy(Scenes.HOME, 0);
        list.addCopy(Scenes.HOME, 1);
        list.pass(Scenes.WAY_TO_LIST);
        for (int number = 0; number < 40; number++) {
            list.request(Scenes.HOUSE, number == 0 ? 0 : number == 39 ? 1 : 7);
        }
        list.pass(Scenes.WAY);
        list.pass(Scenes.WAY);
        noSuchRequests(list, new int[] {LEAST, -1, 40, 41, MOST});
        everyMethodTakesLoan(list, 0, 0);
        everyMethodTakesLoan(list, 39, 1);
    }

    private static void noSuchRequests(UnionList list, int[] numbers) {
        indexRefused("state", numbers, list::state);
        indexRefused("copyOf", numbers, list::copyOf);
        indexRefused("due", numbers, list::due);
        indexRefused("renew", numbers, list::renew);
        indexRefused("recall", numbers, list::recall);
        indexRefused("sendBack", numbers, list::sendBack);
    }

    private static void everyMethodTakesLoan(UnionList list, int request, int copy) {
        Check.equal("state " + request, list.state(request), UnionList.LOAN);
        Check.equal("copyOf " + request, list.copyOf(request), copy);
        Check.equal("due " + request, list.due(request), Scenes.DUE_ON);
        Check.equal("renew " + request, list.renew(request), Scenes.LENT_ON + Scenes.WAY);
        Check.equal("recall " + request, list.recall(request), Scenes.LENT_ON + Scenes.WAY);
        Check.equal("sendBack " + request, list.sendBack(request), 0);
        Check.equal("state behind it " + request, list.state(request), UnionList.GOING_BACK);
    }

    /** Copies and requests are each numbered from 0 and bounded by themselves. */
    private static void copiesAndRequestsAreNumberedApart() {
        UnionList list = new UnionList();
        list.request(0, 0);
        list.request(0, 0);
        Check.equal("the first copy behind two requests", list.addCopy(0, 0), 0);
        Check.badIndex("a request's number is no copy's", () -> list.isFree(1));
        UnionList other = new UnionList();
        other.addCopy(0, 0);
        other.addCopy(0, 0);
        Check.equal("the first request behind two copies", other.request(0, 0), 0);
        Check.badIndex("a copy's number is no request's", () -> other.state(1));
        UnionList full = new UnionList();
        for (int number = 0; number < 20; number++) {
            full.addCopy(0, 0);
        }
        Check.equal("20 copies leave the room of requests", full.request(0, 0), 0);
        Check.badIndex("no request 19", () -> full.state(19));
        UnionList wished = new UnionList();
        for (int number = 0; number < 40; number++) {
            wished.request(0, 0);
        }
        Check.equal("40 requests leave the room of copies", wished.addCopy(0, 0), 0);
        Check.badIndex("no copy 19", () -> wished.isFree(19));
    }

    // Promises 16, 18 and 20

    /** "days: 1 to 100"; "Throws IllegalArgumentException if days is out of range". */
    private static void passDays() {
        UnionList list = new UnionList();
        argumentsRefused("pass", new int[] {LEAST, -100, -1, 0, 101, 102, MOST}, list::pass);
        Check.equal("no day has passed", list.today(), 0);
        Check.equal("the fewest", list.pass(1), 0);
        Check.equal("one day", list.today(), 1);
        Check.equal("the most", list.pass(100), 0);
        Check.equal("a hundred days more", list.today(), 101);
        Check.equal("one less", list.pass(99), 0);
        Check.equal("ninety-nine more", list.today(), 200);
    }

    /** "house: 0 to 5". */
    private static void owesHouse() {
        UnionList list = new UnionList();
        argumentsRefused("owes house", new int[] {LEAST, -2, -1, 6, 7, MOST}, house -> list.owes(house, 0));
        argumentsRefused("owes house of 5", new int[] {-1, 6}, house -> list.owes(house, 5));
        for (int house = 0; house <= 5; house++) {
            Check.equal("owes of house " + house, list.owes(house, 0), 0);
        }
    }

    /** "other: 0 to 5"; a house may be asked about itself. */
    private static void owesOther() {
        UnionList list = new UnionList();
        argumentsRefused("owes other", new int[] {LEAST, -2, -1, 6, 7, MOST}, other -> list.owes(0, other));
        argumentsRefused("owes other of 5", new int[] {-1, 6}, other -> list.owes(5, other));
        argumentsRefused("owes both", new int[] {-1, 6}, both -> list.owes(both, both));
        for (int other = 0; other <= 5; other++) {
            Check.equal("owes to house " + other, list.owes(5, other), 0);
            Check.equal("a house and itself", list.owes(other, other), 0);
        }
    }

    /** "Throws IllegalArgumentException if house is out of range". */
    private static void quotaHouse() {
        UnionList list = new UnionList();
        argumentsRefused("quota", new int[] {LEAST, -2, -1, 6, 7, MOST}, list::quota);
        for (int house = 0; house <= 5; house++) {
            Check.equal("quota of house " + house, list.quota(house), 0);
        }
    }

    private static void argumentsRefused(String what, int[] values, IntConsumer call) {
        for (int value : values) {
            Check.badArgument(what + " " + value, () -> call.accept(value));
        }
    }

    private static void indexRefused(String what, int[] values, IntConsumer call) {
        for (int value : values) {
            Check.badIndex(what + " " + value, () -> call.accept(value));
        }
    }
}
