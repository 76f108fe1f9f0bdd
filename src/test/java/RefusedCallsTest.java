import java.util.ArrayList;
import java.util.List;
import java.util.function.Consumer;
import java.util.function.IntSupplier;
import java.util.function.Supplier;

/**
 * "A method that throws an exception changes nothing." Of two objects with the same past one bears refused calls;
 * then both live through the same sequels, and no answer in them may tell which is which.
 */
public final class RefusedCallsTest {
    /** The last of them is that nothing follows but a look at everything. */
    private static final int SEQUELS = 5;
    private static final int[] NO_COPIES = {Integer.MIN_VALUE, -1, 20, Integer.MAX_VALUE};
    private static final int[] NO_REQUESTS = {Integer.MIN_VALUE, -1, 40, Integer.MAX_VALUE};

    public static void main(String[] args) {
        List<Supplier<UnionList>> pasts = pasts();
        for (int i = 0; i < pasts.size(); i++) {
            Supplier<UnionList> past = pasts.get(i);
            String name = "past " + i;
            changesNothing(name + ", arguments", past, RefusedCallsTest::badArguments);
            changesNothing(name + ", numbers", past, RefusedCallsTest::badNumbers);
            changesNothing(name + ", states", past, RefusedCallsTest::badStates);
        }
        refusedByHarmAndPlace();
        refusedRecall();
        refusedHarmKeepsTheFirstHands();
        refusedCopyLeavesTheQuota();
        refusedPassLeavesTheMessages();
        theSequelsSeeAChange();
        Check.finish();
    }

    private static List<Supplier<UnionList>> pasts() {
        List<Supplier<UnionList>> pasts = new ArrayList<>();
        pasts.add(UnionList::new);
        pasts.add(Scenes::listedAtHome);
        pasts.add(Scenes::asking);
        pasts.add(Scenes::coming);
        pasts.add(Scenes::lent);
        pasts.add(Scenes::goingBack);
        pasts.add(Scenes::over);
        pasts.add(Scenes::failedAtOnce);
        pasts.add(Scenes::failedWhenRefused);
        pasts.add(RefusedCallsTest::recalled);
        pasts.add(RefusedCallsTest::renewed);
        pasts.add(() -> harmed(Scenes.lent()));
        pasts.add(() -> harmed(Scenes.coming()));
        pasts.add(() -> harmed(Scenes.goingBack()));
        pasts.add(() -> harmed(Scenes.listedAtHome()));
        pasts.add(RefusedCallsTest::full);
        return pasts;
    }

    private static UnionList recalled() {
        UnionList list = Scenes.lent();
        list.recall(0);
        return list;
    }

    private static UnionList renewed() {
        UnionList list = Scenes.lent();
        list.renew(0);
        return list;
    }

    private static UnionList harmed(UnionList list) {
        list.harm(0);
        return list;
    }

    private static UnionList full() {
        UnionList list = new UnionList();
        for (int i = 0; i < 20; i++) {
            list.addCopy(i % 6, i % 3);
        }
        list.pass(6);
        for (int i = 0; i < 40; i++) {
            list.request(i % 6, i % 4);
        }
        list.pass(9);
        return list;
    }

    private static void badArguments(UnionList list) {
        for (int bad : new int[] {Integer.MIN_VALUE, -1, 8, Integer.MAX_VALUE}) {
            Check.badArgument("addCopy", () -> list.addCopy(bad, 0));
            Check.badArgument("addCopy", () -> list.addCopy(0, bad));
            Check.badArgument("request", () -> list.request(bad, 0));
            Check.badArgument("request", () -> list.request(0, bad));
            Check.badArgument("owes", () -> list.owes(bad, 0));
            Check.badArgument("owes", () -> list.owes(0, bad));
            Check.badArgument("quota", () -> list.quota(bad));
        }
        for (int bad : new int[] {Integer.MIN_VALUE, -1, 0, 101, Integer.MAX_VALUE}) {
            Check.badArgument("pass", () -> list.pass(bad));
        }
    }

    private static void badNumbers(UnionList list) {
        for (int number : NO_COPIES) {
            Check.badIndex("inHandsOf", () -> list.inHandsOf(number));
            Check.badIndex("isFree", () -> list.isFree(number));
            Check.badIndex("listed", () -> list.listed(number));
            Check.badIndex("harm", () -> list.harm(number));
            Check.badIndex("look", () -> list.look(number));
            Check.badIndex("mend", () -> list.mend(number));
        }
        for (int number : NO_REQUESTS) {
            Check.badIndex("state", () -> list.state(number));
            Check.badIndex("copyOf", () -> list.copyOf(number));
            Check.badIndex("due", () -> list.due(number));
            Check.badIndex("renew", () -> list.renew(number));
            Check.badIndex("recall", () -> list.recall(number));
            Check.badIndex("sendBack", () -> list.sendBack(number));
        }
    }

    /** The calls that a state forbids which can be asked for; the others stand in refusedByHarmAndPlace. */
    private static void badStates(UnionList list) {
        if (isThere(list::inHandsOf, 19)) {
            Check.badState("addCopy", () -> list.addCopy(0, 0));
        }
        if (isThere(list::state, 39)) {
            Check.badState("request", () -> list.request(0, 0));
        }
        // Of many, every seventh, for the calls that the sequels need must be left of the 512.
        for (int request = 0; request < 40 && isThere(list::state, request); request += 7) {
            noLoanCalls(list, request);
        }
        for (int copy = 0; copy < 20 && isThere(list::inHandsOf, copy); copy += 7) {
            int number = copy;
            if (list.isFree(copy)) {
                Check.badState("mend", () -> list.mend(number));
            }
        }
    }

    private static void noLoanCalls(UnionList list, int request) {
        if (list.state(request) != UnionList.LOAN) {
            Check.badState("due", () -> list.due(request));
            Check.badState("renew", () -> list.renew(request));
            Check.badState("recall", () -> list.recall(request));
            Check.badState("sendBack", () -> list.sendBack(request));
        }
    }

    private interface Question {
        int of(int number);
    }

    private static boolean isThere(Question question, int number) {
        try {
            question.of(number);
            return true;
        } catch (IndexOutOfBoundsException e) {
            return false;
        }
    }

    private static void changesNothing(String name, Supplier<UnionList> past, Consumer<UnionList> refused) {
        for (int sequel = 0; sequel < SEQUELS; sequel++) {
            UnionList touched = past.get();
            refused.accept(touched);
            Check.equal(name + ", sequel " + sequel, sequelOf(touched, sequel), sequelOf(past.get(), sequel));
        }
    }

    private static void refusedByHarmAndPlace() {
        changesNothing("way out", Scenes::coming, RefusedCallsTest::noLook);
        changesNothing("way out", Scenes::coming, RefusedCallsTest::noMend);
        changesNothing("way out, harmed", () -> harmed(Scenes.coming()), RefusedCallsTest::noLook);
        changesNothing("way out, harmed", () -> harmed(Scenes.coming()), RefusedCallsTest::noHarm);
        changesNothing("way out, harmed", () -> harmed(Scenes.coming()), RefusedCallsTest::noMend);
        changesNothing("lent", Scenes::lent, RefusedCallsTest::noMend);
        changesNothing("lent, harmed", () -> harmed(Scenes.lent()), RefusedCallsTest::noHarm);
        changesNothing("lent, harmed", () -> harmed(Scenes.lent()), RefusedCallsTest::noMend);
        changesNothing("lent, known", () -> seen(Scenes.lent()), RefusedCallsTest::noHarm);
        changesNothing("lent, known", () -> seen(Scenes.lent()), RefusedCallsTest::noMend);
        changesNothing("way home", Scenes::goingBack, RefusedCallsTest::noLook);
        changesNothing("way home", Scenes::goingBack, RefusedCallsTest::noMend);
        changesNothing("way home, harmed", () -> harmed(Scenes.goingBack()), RefusedCallsTest::noLook);
        changesNothing("way home, harmed", () -> harmed(Scenes.goingBack()), RefusedCallsTest::noHarm);
        changesNothing("way home, harmed", () -> harmed(Scenes.goingBack()), RefusedCallsTest::noMend);
        changesNothing("way home, known", RefusedCallsTest::knownOnItsWayHome, RefusedCallsTest::noLook);
        changesNothing("way home, known", RefusedCallsTest::knownOnItsWayHome, RefusedCallsTest::noHarm);
        changesNothing("way home, known", RefusedCallsTest::knownOnItsWayHome, RefusedCallsTest::noMend);
        changesNothing("home", Scenes::listedAtHome, RefusedCallsTest::noMend);
        changesNothing("home, harmed", () -> harmed(Scenes.listedAtHome()), RefusedCallsTest::noHarm);
        changesNothing("home, harmed", () -> harmed(Scenes.listedAtHome()), RefusedCallsTest::noMend);
        changesNothing("home, known", () -> seen(Scenes.listedAtHome()), RefusedCallsTest::noHarm);
    }

    private static UnionList seen(UnionList list) {
        list.harm(0);
        list.look(0);
        return list;
    }

    private static UnionList knownOnItsWayHome() {
        UnionList list = seen(Scenes.lent());
        list.sendBack(0);
        return list;
    }

    private static void noLook(UnionList list) {
        Check.badState("look", () -> list.look(0));
    }

    private static void noHarm(UnionList list) {
        Check.badState("harm", () -> list.harm(0));
    }

    private static void noMend(UnionList list) {
        Check.badState("mend", () -> list.mend(0));
    }

    private static void refusedRecall() {
        changesNothing("a recall is on its way", RefusedCallsTest::recalled, RefusedCallsTest::noRecall);
        changesNothing("a recall has arrived", () -> {
            UnionList list = recalled();
            list.pass(Scenes.WAY);
            return list;
        }, RefusedCallsTest::noRecall);
    }

    private static void noRecall(UnionList list) {
        Check.badState("recall", () -> list.recall(0));
    }

    /** Several sequels, for a past, its refused calls and one of them must stay within 512 calls. */
    private static String sequelOf(UnionList list, int sequel) {
        StringBuilder told = new StringBuilder();
        switch (sequel) {
            case 0:
                dayByDay(told, list);
                break;
            case 1:
                renewAndRecall(told, list);
                break;
            case 2:
                harmAndSendBack(told, list);
                break;
            case 3:
                addAndRequest(told, list);
                break;
            default:
                break;
        }
        all(told, list);
        return told.toString();
    }

    private static void dayByDay(StringBuilder told, UnionList list) {
        for (int i = 0; i < 8; i++) {
            tell(told, () -> list.pass(1));
        }
    }

    private static void renewAndRecall(StringBuilder told, UnionList list) {
        forRequests(told, list::renew);
        tell(told, () -> list.pass(6));
        forRequests(told, list::recall);
        tell(told, () -> list.pass(6));
    }

    private static void harmAndSendBack(StringBuilder told, UnionList list) {
        forCopies(told, list::look);
        forCopies(told, list::harm);
        tell(told, () -> list.pass(60));
        tell(told, list::settle);
        forRequests(told, list::sendBack);
        tell(told, () -> list.pass(6));
        forCopies(told, copy -> {
            list.mend(copy);
            return 0;
        });
        tell(told, () -> list.pass(6));
    }

    private static void addAndRequest(StringBuilder told, UnionList list) {
        for (int house = 0; house <= 5; house++) {
            int number = house;
            tell(told, () -> list.addCopy(number, 0));
            tell(told, () -> list.pass(6));
            tell(told, () -> list.request(5 - number, 0));
        }
        tell(told, () -> list.pass(20));
    }

    private static void all(StringBuilder told, UnionList list) {
        told.append("\nday ").append(list.today());
        forCopies(told, list::inHandsOf);
        forCopies(told, copy -> list.isFree(copy) ? 1 : 0);
        forCopies(told, list::listed);
        forRequests(told, list::state);
        forRequests(told, list::copyOf);
        forRequests(told, list::due);
        for (int house = 0; house < 6; house++) {
            told.append(" quota ").append(list.quota(house));
            for (int other = house; other < 6; other++) {
                told.append(' ').append(list.owes(house, other));
            }
        }
        told.append('\n');
    }

    private static void forCopies(StringBuilder told, Question question) {
        forNumbers(told, question, 20);
    }

    private static void forRequests(StringBuilder told, Question question) {
        forNumbers(told, question, 40);
    }

    /** Up to the first number that there isn't, which is told too. */
    private static void forNumbers(StringBuilder told, Question question, int count) {
        told.append(" |");
        boolean there = true;
        for (int i = 0; i < count && there; i++) {
            int number = i;
            there = tell(told, () -> question.of(number));
        }
    }

    private static boolean tell(StringBuilder told, IntSupplier call) {
        told.append(' ');
        try {
            told.append(call.getAsInt());
        } catch (IllegalArgumentException e) {
            told.append('a');
        } catch (IllegalStateException e) {
            told.append('s');
        } catch (IndexOutOfBoundsException e) {
            told.append('i');
            return false;
        }
        return true;
    }

    /** The house harmed it first; that the home would harm it too is refused and doesn't count. */
    private static void refusedHarmKeepsTheFirstHands() {
        UnionList list = Scenes.coming();
        list.harm(0);
        list.pass(Scenes.WAY);
        Check.badState("harm at the house", () -> list.harm(0));
        Check.equal("known as harmed in the hands of the home", list.look(0), Scenes.HOME);
        Check.equal("the house owes nothing for it", list.owes(Scenes.HOUSE, Scenes.HOME), 0);

        UnionList back = Scenes.goingBack();
        back.harm(0);
        Check.badState("look on its way", () -> back.look(0));
        Check.equal("nothing became known by a refused look", back.owes(Scenes.HOUSE, Scenes.HOME), 0);
        back.pass(Scenes.WAY);
        Check.badState("harm at home", () -> back.harm(0));
        Check.equal("the house owes for it", back.owes(Scenes.HOUSE, Scenes.HOME), 30);
    }

    /** A refused copy must not count as a third one of its home. */
    private static void refusedCopyLeavesTheQuota() {
        UnionList list = new UnionList();
        list.addCopy(Scenes.HOUSE, 1);
        list.addCopy(Scenes.HOUSE, 1);
        for (int i = 2; i < 20; i++) {
            list.addCopy(Scenes.HOME, 0);
        }
        Check.badState("copy 21", () -> list.addCopy(Scenes.HOUSE, 1));
        Check.badArgument("a title that is none", () -> list.addCopy(Scenes.HOUSE, 8));
        list.pass(Scenes.WAY_TO_LIST);
        list.request(Scenes.HOUSE, 0);
        list.pass(2 * Scenes.WAY);
        Check.equal("a house of two copies", list.quota(Scenes.HOUSE), 1);
        Check.equal("owes nothing", list.owes(Scenes.HOUSE, Scenes.HOME), 0);
    }

    private static void refusedPassLeavesTheMessages() {
        UnionList list = new UnionList();
        list.addCopy(0, 0);
        Check.badArgument("0 days", () -> list.pass(0));
        Check.badArgument("101 days", () -> list.pass(101));
        Check.equal("nothing arrived", list.listed(0), -1);
        Check.equal("no day began", list.today(), 0);
        Check.equal("it arrives when it is due", list.pass(1), 1);
    }

    /** So that the sequels themselves are tested: they tell of each change that a call which isn't refused makes. */
    private static void theSequelsSeeAChange() {
        sees("addCopy", list -> list.addCopy(0, 5));
        sees("harm", list -> list.harm(0));
        sees("request", list -> list.request(0, 7));
        sees("renew", list -> list.renew(0));
        sees("recall", list -> list.recall(0));
        sees("sendBack", list -> list.sendBack(0));
        sees("pass", list -> list.pass(1));
    }

    private static void sees(String name, Consumer<UnionList> change) {
        boolean seen = false;
        for (int sequel = 0; sequel < SEQUELS; sequel++) {
            UnionList changed = Scenes.lent();
            change.accept(changed);
            seen |= !sequelOf(changed, sequel).equals(sequelOf(Scenes.lent(), sequel));
        }
        Check.equal("a sequel sees " + name, seen, true);
    }
}
