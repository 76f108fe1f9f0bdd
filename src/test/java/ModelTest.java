/** Long mixed runs, in which the class and the model must give the same answers. */
public final class ModelTest {
    private static final int RUNS = 3000;
    private static final int CALLS = 512;

    private static int seed;
    private static final int[] states = new int[6];

    public static void main(String[] args) {
        for (int run = 0; run < RUNS && Check.nothingWrong(); run++) {
            seed = run * 104729 + 7;
            oneRun(run);
        }
        for (int state = 0; state < states.length; state++) {
            Check.equal("state " + state + " is met", states[state] > 100, true);
        }
        Check.finish();
    }

    private static int next(int bound) {
        seed = seed * 1103515245 + 12345;
        return (seed >>> 8) % bound;
    }

    private static void oneRun(int run) {
        UnionList list = new UnionList();
        Model model = new Model();
        int titles = 1 + next(4);
        int longestPass = run % 3 == 0 ? 100 : 1 + next(8);
        int stocked = next(6);
        for (int i = 0; i < stocked; i++) {
            same(run, list, model, 0, next(6), next(titles));
        }
        for (int i = stocked; i < CALLS && Check.nothingWrong(); i++) {
            int call = next(30);
            int[] pair = arguments(call, titles, longestPass, model.made());
            same(run, list, model, call, pair[0], pair[1]);
            if (i == CALLS / 8) {
                countStates(model);
            }
        }
    }

    /** In the midst of a run, for at its end every request is over or has failed. */
    private static void countStates(Model model) {
        for (int request = 0; request < 40; request++) {
            int state = model.state(request);
            if (state >= 0) {
                states[state]++;
            }
        }
    }

    private static int[] arguments(int call, int titles, int longestPass, int made) {
        boolean odd = next(60) == 0;
        switch (call) {
            case 0: case 7: case 19:
                return odd ? new int[] {next(9) - 2, next(11) - 2} : new int[] {next(6), next(titles)};
            case 1: case 2: case 3: case 4: case 5: case 6: case 20: case 21:
                return new int[] {next(odd ? 24 : 8) - (odd ? 2 : 0), 0};
            case 18: case 22: case 23: case 24:
                return new int[] {odd ? next(2) * 101 : 1 + next(longestPass), 0};
            case 15: case 17:
                return new int[] {next(6) + (odd ? 1 : 0), next(6) - (odd ? 1 : 0)};
            default:
                return new int[] {odd ? next(44) - 2 : next(made + 1), 0};
        }
    }

    private static void same(int run, UnionList list, Model model, int call, int a, int b) {
        int due = ofModel(model, call, a, b);
        int got = ofList(list, call, a, b);
        Check.equal("run " + run + ": call " + call + "(" + a + ", " + b + ")", got, due);
    }

    private static int ofModel(Model model, int call, int a, int b) {
        switch (call) {
            case 0: return model.addCopy(a, b);
            case 1: return model.inHandsOf(a);
            case 2: return model.isFree(a);
            case 3: return model.listed(a);
            case 4: return model.harm(a);
            case 5: case 20: return model.look(a);
            case 6: case 21: return model.mend(a);
            case 7: case 19: return model.request(a, b);
            case 8: return model.state(a);
            case 9: return model.copyOf(a);
            case 10: case 25: return model.due(a);
            case 11: case 26: return model.renew(a);
            case 12: case 27: return model.recall(a);
            case 13: case 28: case 29: return model.sendBack(a);
            case 14: return model.today();
            case 15: return model.owes(a, b);
            case 16: return model.settle();
            case 17: return model.quota(a);
            default: return model.pass(a);
        }
    }

    private static int ofList(UnionList list, int call, int a, int b) {
        try {
            return answerOf(list, call, a, b);
        } catch (RuntimeException e) {
            Class<?> kind = e.getClass();
            return kind == IllegalArgumentException.class ? Model.BAD_ARGUMENT
                    : kind == IndexOutOfBoundsException.class ? Model.BAD_INDEX
                    : kind == IllegalStateException.class ? Model.BAD_STATE : Integer.MIN_VALUE;
        }
    }

    private static int answerOf(UnionList list, int call, int a, int b) {
        switch (call) {
            case 0: return list.addCopy(a, b);
            case 1: return list.inHandsOf(a);
            case 2: return list.isFree(a) ? 1 : 0;
            case 3: return list.listed(a);
            case 4: return list.harm(a);
            case 5: case 20: return list.look(a);
            case 6: case 21: list.mend(a); return 0;
            case 7: case 19: return list.request(a, b);
            case 8: return list.state(a);
            case 9: return list.copyOf(a);
            case 10: case 25: return list.due(a);
            case 11: case 26: return list.renew(a);
            case 12: case 27: return list.recall(a);
            case 13: case 28: case 29: return list.sendBack(a);
            case 14: return list.today();
            case 15: return list.owes(a, b);
            case 16: return list.settle();
            case 17: return list.quota(a);
            default: return list.pass(a);
        }
    }
}
