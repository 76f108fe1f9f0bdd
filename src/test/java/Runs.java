import java.util.function.IntConsumer;

/** What several tests do with a list. */
final class Runs {
    private Runs() {
    }

    static void noSuch(int[] numbers, IntConsumer call) {
        for (int number : numbers) {
            Check.badIndex("number " + number, () -> call.accept(number));
        }
    }

    /** Adds a copy, makes a request for it and waits for the loan; every message has arrived then. */
    static void lend(UnionList list, int home, int house, int title) {
        int copy = list.addCopy(home, title);
        list.pass(home + 1);
        int request = list.request(house, title);
        int way = Math.abs(home - house) + 1;
        list.pass(way);
        Check.equal("it is coming", list.state(request), UnionList.COMING);
        list.pass(way);
        Check.equal("it is lent", list.state(request), UnionList.LOAN);
        Check.equal("the copy is lent", list.copyOf(request), copy);
        list.pass(Math.max(1, home + 1 - way));
    }
}
