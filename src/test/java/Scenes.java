/**
 * Objects in the midst of a run, made by calls of the face alone. The copy 0 of title 0 is at home 3 in all of them;
 * house 1 borrows it by request 0. The way between the two takes 3 days, that from home 3 to the list 4.
 */
final class Scenes {
    static final int HOME = 3;
    static final int HOUSE = 1;
    static final int WAY = 3;
    static final int WAY_TO_LIST = 4;

    /** The days on which the things of these scenes arrive. */
    static final int LISTED_ON = 4;
    static final int SENT_OUT_ON = 7;
    static final int LENT_ON = 10;
    static final int DUE_ON = 30;

    private Scenes() {
    }

    static UnionList listedAtHome() {
        UnionList list = new UnionList();
        list.addCopy(HOME, 0);
        list.pass(WAY_TO_LIST);
        return list;
    }

    static UnionList asking() {
        UnionList list = listedAtHome();
        list.request(HOUSE, 0);
        return list;
    }

    static UnionList coming() {
        UnionList list = asking();
        list.pass(WAY);
        return list;
    }

    static UnionList lent() {
        UnionList list = coming();
        list.pass(WAY);
        return list;
    }

    /** A loan behind the message that the copy was sent away, so that nothing is on its way. */
    static UnionList lentAndQuiet() {
        UnionList list = lent();
        list.pass(1);
        return list;
    }

    static UnionList goingBack() {
        UnionList list = lent();
        list.sendBack(0);
        return list;
    }

    static UnionList over() {
        UnionList list = goingBack();
        list.pass(WAY);
        return list;
    }

    /** No home knows of title 7, so that the request fails at once. */
    static UnionList failedAtOnce() {
        UnionList list = new UnionList();
        list.request(HOUSE, 7);
        return list;
    }

    /** The only home refuses, for harm of the copy is known there and not to the list. */
    static UnionList failedWhenRefused() {
        UnionList list = listedAtHome();
        list.harm(0);
        list.look(0);
        list.request(HOUSE, 0);
        list.pass(WAY);
        return list;
    }

    /** Lets days pass up to a day that is still to come. */
    static void waitUntil(UnionList list, int day) {
        int left = day - list.today();
        while (left > 0) {
            int step = Math.min(left, 100);
            list.pass(step);
            left -= step;
        }
        Check.equal("the day that was waited for", list.today(), day);
    }

    static int wayBetween(int house, int other) {
        return (house > other ? house - other : other - house) + 1;
    }
}
