/** No call throws what the document doesn't name, for odd arguments and far behind the 512th call too. */
public final class EndlessCallsTest {
    private static final int[] ODD = {Integer.MIN_VALUE, -7, -1, 0, 1, 2, 3, 4, 5, 6, 7, 8, 19, 20, 39, 40,
        41, 100, 101, Integer.MAX_VALUE};
    private static int seed;

    public static void main(String[] args) {
        for (int run = 0; run < 40; run++) {
            seed = run * 7919 + 1;
            UnionList list = new UnionList();
            for (int i = 0; i < 5000; i++) {
                anyCall(list, run % 2 == 0);
            }
        }
        manyRenewals();
        Check.finish();
    }

    private static int next(int bound) {
        seed = seed * 1103515245 + 12345;
        return (seed >>> 8) % bound;
    }

    private static int odd() {
        return ODD[next(ODD.length)];
    }

    private static void anyCall(UnionList list, boolean daysPass) {
        int call = next(20);
        if (call == 19 && !daysPass) {
            return;
        }
        try {
            perform(list, call, odd(), odd());
        } catch (RuntimeException e) {
            Class<?> kind = e.getClass();
            boolean named = kind == IllegalArgumentException.class || kind == IllegalStateException.class
                    || kind == IndexOutOfBoundsException.class;
            Check.equal("call " + call + " threw " + e, named, true);
        }
    }

    private static void perform(UnionList list, int call, int a, int b) {
        switch (call) {
            case 0: list.addCopy(a, b); break;
            case 1: list.inHandsOf(a); break;
            case 2: list.isFree(a); break;
            case 3: list.listed(a); break;
            case 4: list.harm(a); break;
            case 5: list.look(a); break;
            case 6: list.mend(a); break;
            case 7: list.request(a, b); break;
            case 8: list.state(a); break;
            case 9: list.copyOf(a); break;
            case 10: list.due(a); break;
            case 11: list.renew(a); break;
            case 12: list.recall(a); break;
            case 13: list.sendBack(a); break;
            case 14: list.today(); break;
            case 15: list.owes(a, b); break;
            case 16: list.settle(); break;
            case 17: list.quota(a); break;
            case 18: list.addCopy(next(6), next(8)); break;
            default: list.pass(a); break;
        }
    }

    private static void manyRenewals() {
        UnionList list = new UnionList();
        Runs.lend(list, 0, 5, 0);
        int due = list.due(0);
        // All calls that are left of the 512: lend made up to 10, due, pass and due are 3.
        int renewals = 490;
        for (int i = 0; i < renewals; i++) {
            list.renew(0);
        }
        Check.equal("every one arrives", list.pass(6), renewals);
        Check.equal("every one counts", list.due(0), due + renewals * 20);
        for (int i = 0; i < 5000; i++) {
            list.renew(0);
        }
        list.pass(100);
        Check.equal("the day", list.today() > 100, true);
    }
}
