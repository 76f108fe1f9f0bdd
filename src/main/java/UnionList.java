/** Copies that houses lend to one another by way of a union list that lags behind. */
public final class UnionList {
    public static final int ASKING = 0, COMING = 1, LOAN = 2, GOING_BACK = 3, OVER = 4, FAILED = 5;

    private static final int HOUSES = 6;
    private static final int TITLES = 8;
    private static final int MOST_COPIES = 20;
    private static final int MOST_REQUESTS = 40;
    private static final int MOST_DAYS_AT_ONCE = 100;
    private static final int MOST_CALLS = 512;

    private static final int LOAN_DAYS = 20;
    private static final int RENEWAL_DAYS = 20;
    private static final int RECALL_DAYS = 5;
    private static final int QUARTER_DAYS = 90;

    private static final int LOAN_FEE = 6;
    private static final int LATE_FEE_A_DAY = 1;
    private static final int HARM_FEE = 30;
    private static final int SMALL_HOUSE_COPIES = 2;
    private static final int FREE_LOANS_A_QUARTER = 2;

    private static final int NOBODY = -1;

    private static final int LIST_KNOWS_NOTHING = -1;
    private static final int LIST_KNOWS_AWAY = 0;
    private static final int LIST_KNOWS_FREE = 1;

    // What can be on its way.
    private static final int NEWS_FREE = 0;
    private static final int NEWS_AWAY = 1;
    private static final int QUESTION = 2;
    private static final int COPY_GOING_OUT = 3;
    private static final int COPY_GOING_HOME = 4;
    private static final int RENEWAL = 5;
    private static final int RECALL = 6;

    private final Copy[] copies;
    private final Request[] requests;
    private final Post post;
    private final Accounts accounts;
    private int copyCount;
    private int requestCount;
    private int day;

    public UnionList() {
        copies = new Copy[MOST_COPIES];
        requests = new Request[MOST_REQUESTS];
        // A call sends one thing at most, and a question that is granted becomes two.
        post = new Post(MOST_CALLS + MOST_REQUESTS);
        accounts = new Accounts();
        copyCount = 0;
        requestCount = 0;
        day = 0;
    }

    // ---- copies

    public int addCopy(int home, int title) throws IllegalArgumentException, IllegalStateException {
        if (!isHouse(home) || !isTitle(title)) {
            throw new IllegalArgumentException("home or title is out of range");
        }
        int number = copyCount;
        if (number < 0 || number >= copies.length) {
            throw new IllegalStateException("there are 20 copies");
        }
        Copy copy = new Copy(number, home, title);
        copies[number] = copy;
        copyCount = number + 1;
        accounts.countHomeCopy(home);
        sendNews(NEWS_FREE, copy);
        return number;
    }

    public int inHandsOf(int copy) throws IndexOutOfBoundsException {
        return copyNumbered(copy).holder;
    }

    public boolean isFree(int copy) throws IndexOutOfBoundsException {
        return copyNumbered(copy).canBeSent();
    }

    public int listed(int copy) throws IndexOutOfBoundsException {
        return copyNumbered(copy).knownToList;
    }

    public int harm(int copy) throws IndexOutOfBoundsException, IllegalStateException {
        Copy harmed = copyNumbered(copy);
        if (harmed.isHarmed()) {
            throw new IllegalStateException("it was harmed and was not mended since");
        }
        harmed.harmedBy = harmed.holder;
        return harmed.harmedBy;
    }

    public int look(int copy) throws IndexOutOfBoundsException, IllegalStateException {
        Copy seen = copyNumbered(copy);
        if (seen.onItsWay) {
            throw new IllegalStateException("it is on its way");
        }
        return examine(seen);
    }

    public void mend(int copy) throws IndexOutOfBoundsException, IllegalStateException {
        Copy harmed = copyNumbered(copy);
        if (!harmed.isAtHome() || !harmed.harmKnown) {
            throw new IllegalStateException("it is not at home, or no harm is known");
        }
        harmed.harmedBy = NOBODY;
        harmed.harmKnown = false;
        sendNews(NEWS_FREE, harmed);
    }

    // ---- requests and loans

    public int request(int house, int title) throws IllegalArgumentException, IllegalStateException {
        if (!isHouse(house) || !isTitle(title)) {
            throw new IllegalArgumentException("house or title is out of range");
        }
        int number = requestCount;
        if (number < 0 || number >= requests.length) {
            throw new IllegalStateException("40 requests were made");
        }
        Request made = new Request(house, title);
        requests[number] = made;
        requestCount = number + 1;
        askNextHome(made);
        return number;
    }

    public int state(int request) throws IndexOutOfBoundsException {
        return requestNumbered(request).state;
    }

    public int copyOf(int request) throws IndexOutOfBoundsException {
        Copy copy = requestNumbered(request).copy;
        return copy == null ? -1 : copy.number;
    }

    public int due(int request) throws IndexOutOfBoundsException, IllegalStateException {
        Request loan = requestNumbered(request);
        if (loan.state != LOAN) {
            throw new IllegalStateException("it is no loan");
        }
        return loan.dueDay;
    }

    public int renew(int request) throws IndexOutOfBoundsException, IllegalStateException {
        Request loan = requestNumbered(request);
        Copy copy = loan.copy;
        if (loan.state != LOAN || copy == null) {
            throw new IllegalStateException("it is no loan");
        }
        return send(RENEWAL, way(loan.house, copy.home), copy, loan);
    }

    public int recall(int request) throws IndexOutOfBoundsException, IllegalStateException {
        Request loan = requestNumbered(request);
        Copy copy = loan.copy;
        if (loan.state != LOAN || copy == null || loan.recallSent) {
            throw new IllegalStateException("it is no loan, or a recall of it was sent");
        }
        loan.recallSent = true;
        return send(RECALL, way(loan.house, copy.home), copy, loan);
    }

    public int sendBack(int request) throws IndexOutOfBoundsException, IllegalStateException {
        Request loan = requestNumbered(request);
        Copy copy = loan.copy;
        if (loan.state != LOAN || copy == null) {
            throw new IllegalStateException("it is no loan");
        }
        int daysLate = Math.max(0, day - loan.dueDay);
        accounts.charge(loan.house, copy.home, daysLate * LATE_FEE_A_DAY);
        loan.state = GOING_BACK;
        copy.onItsWay = true;
        send(COPY_GOING_HOME, way(loan.house, copy.home), copy, loan);
        return daysLate;
    }

    // ---- days and fees

    public int pass(int days) throws IllegalArgumentException {
        if (days < 1 || days > MOST_DAYS_AT_ONCE) {
            throw new IllegalArgumentException("days is out of range");
        }
        int arrived = 0;
        for (int i = 0; i < days; i++) {
            arrived += arrivalsOfNextDay();
        }
        return arrived;
    }

    public int today() {
        return day;
    }

    public int owes(int house, int other) throws IllegalArgumentException {
        if (!isHouse(house) || !isHouse(other)) {
            throw new IllegalArgumentException("house or other is out of range");
        }
        return accounts.balance(house, other);
    }

    public int settle() {
        return accounts.clearDebts();
    }

    public int quota(int house) throws IllegalArgumentException {
        if (!isHouse(house)) {
            throw new IllegalArgumentException("house is out of range");
        }
        return accounts.freeLoansOf(house);
    }

    // ---- ranges, numbers and ways

    private static boolean isHouse(int house) {
        return house >= 0 && house < HOUSES;
    }

    private static boolean isTitle(int title) {
        return title >= 0 && title < TITLES;
    }

    private Copy copyNumbered(int number) {
        Copy copy = number >= 0 && number < copies.length ? copies[number] : null;
        if (copy == null) {
            throw new IndexOutOfBoundsException("there is no such copy");
        }
        return copy;
    }

    private Request requestNumbered(int number) {
        Request request = number >= 0 && number < requests.length ? requests[number] : null;
        if (request == null) {
            throw new IndexOutOfBoundsException("there is no such request");
        }
        return request;
    }

    private static int way(int house, int other) {
        return Math.abs(house - other) + 1;
    }

    private static int wayToList(int house) {
        return house + 1;
    }

    // ---- sending and arriving

    private int send(int kind, int way, Copy copy, Request request) {
        int arrival = day + way;
        post.put(new Sent(kind, arrival, copy, request));
        return arrival;
    }

    private void sendNews(int kind, Copy copy) {
        send(kind, wayToList(copy.home), copy, null);
    }

    private int arrivalsOfNextDay() {
        day++;
        if (day % QUARTER_DAYS == 0) {
            accounts.beginQuarter();
        }
        // Every way takes a day or more, so what is sent today can't arrive today.
        int waiting = post.size;
        int arrived = 0;
        for (int i = 0; i < waiting; i++) {
            Sent sent = post.takeArrived(day);
            if (sent == null) {
                break;
            }
            deliver(sent);
            arrived++;
        }
        return arrived;
    }

    private void deliver(Sent sent) {
        Copy copy = sent.copy;
        if (copy == null) {
            return;
        }
        Request request = sent.request;
        if (request == null) {
            copy.knownToList = sent.kind == NEWS_FREE ? LIST_KNOWS_FREE : LIST_KNOWS_AWAY;
            return;
        }
        switch (sent.kind) {
            case QUESTION:
                answerQuestion(copy, request);
                break;
            case COPY_GOING_OUT:
                beginLoan(copy, request);
                break;
            case COPY_GOING_HOME:
                comeHome(copy, request);
                break;
            case RENEWAL:
                prolong(request);
                break;
            case RECALL:
                shorten(request);
                break;
            default:
                break;
        }
    }

    // ---- the way of a request

    private void askNextHome(Request request) {
        Copy next = nearestListedFree(request);
        request.copy = next;
        if (next == null) {
            request.state = FAILED;
            return;
        }
        request.markAsked(next.home);
        send(QUESTION, way(request.house, next.home), next, request);
    }

    /** Returns null if there is no home left to ask. */
    private Copy nearestListedFree(Request request) {
        Copy nearest = null;
        int shortest = 0;
        for (Copy copy : copies) {
            if (copy == null || !request.mayAskFor(copy)) {
                continue;
            }
            int way = way(request.house, copy.home);
            if (nearest == null || way < shortest) {
                nearest = copy;
                shortest = way;
            }
        }
        return nearest;
    }

    private void answerQuestion(Copy copy, Request request) {
        if (!copy.canBeSent()) {
            askNextHome(request);
            return;
        }
        request.state = COMING;
        copy.onItsWay = true;
        send(COPY_GOING_OUT, way(request.house, copy.home), copy, request);
        sendNews(NEWS_AWAY, copy);
    }

    private void beginLoan(Copy copy, Request request) {
        copy.holder = request.house;
        copy.onItsWay = false;
        request.state = LOAN;
        request.dueDay = day + LOAN_DAYS;
        accounts.chargeLoan(request.house, copy.home);
    }

    private void prolong(Request request) {
        if (request.state == LOAN && !request.recallSent) {
            request.dueDay += RENEWAL_DAYS;
        }
    }

    private void shorten(Request request) {
        if (request.state == LOAN) {
            request.dueDay = Math.min(request.dueDay, day + RECALL_DAYS);
        }
    }

    private void comeHome(Copy copy, Request request) {
        copy.holder = copy.home;
        copy.onItsWay = false;
        request.state = OVER;
        examine(copy);
        if (copy.canBeSent()) {
            sendNews(NEWS_FREE, copy);
        }
    }

    /** Returns in whose hands the copy was harmed if that becomes known now, or NOBODY. */
    private int examine(Copy copy) {
        if (!copy.isHarmed() || copy.harmKnown) {
            return NOBODY;
        }
        copy.harmKnown = true;
        if (copy.harmedBy != copy.home) {
            accounts.charge(copy.harmedBy, copy.home, HARM_FEE);
        }
        return copy.harmedBy;
    }

    private static final class Copy {
        final int number;
        final int home;
        final int title;
        int holder;
        boolean onItsWay;
        int knownToList;
        int harmedBy;
        boolean harmKnown;

        Copy(int number, int home, int title) {
            this.number = number;
            this.home = home;
            this.title = title;
            holder = home;
            onItsWay = false;
            knownToList = LIST_KNOWS_NOTHING;
            harmedBy = NOBODY;
            harmKnown = false;
        }

        boolean isAtHome() {
            return holder == home && !onItsWay;
        }

        boolean isHarmed() {
            return harmedBy != NOBODY;
        }

        boolean canBeSent() {
            return isAtHome() && !harmKnown;
        }
    }

    private static final class Request {
        final int house;
        final int title;
        /** The copy that is asked for or was sent; null if the request has failed. */
        Copy copy;
        int state;
        int dueDay;
        boolean recallSent;
        /** A bit for each home. */
        private int askedHomes;

        Request(int house, int title) {
            this.house = house;
            this.title = title;
            copy = null;
            state = ASKING;
            dueDay = 0;
            recallSent = false;
            askedHomes = 0;
        }

        void markAsked(int home) {
            askedHomes |= 1 << home;
        }

        boolean mayAskFor(Copy copy) {
            boolean asked = (askedHomes >> copy.home & 1) == 1;
            return copy.title == title
                    && copy.knownToList == LIST_KNOWS_FREE
                    && copy.home != house
                    && !asked;
        }
    }

    private static final class Sent {
        final int kind;
        final int arrival;
        final Copy copy;
        /** Null if it is news for the list. */
        final Request request;

        Sent(int kind, int arrival, Copy copy, Request request) {
            this.kind = kind;
            this.arrival = arrival;
            this.copy = copy;
            this.request = request;
        }
    }

    /** All that is on its way, in the order in which it will arrive. */
    private static final class Post {
        private final Sent[] waiting;
        int size;

        Post(int room) {
            waiting = new Sent[Math.max(0, room)];
            size = 0;
        }

        void put(Sent sent) {
            // It can be full only behind the last call for which answers are promised.
            if (sent == null || size < 0 || size >= waiting.length) {
                return;
            }
            int place = size;
            // What arrives on the same day stays ahead, for it was sent before.
            while (place > 0) {
                Sent ahead = waiting[place - 1];
                if (ahead == null || ahead.arrival <= sent.arrival) {
                    break;
                }
                waiting[place] = ahead;
                place--;
            }
            waiting[place] = sent;
            size++;
        }

        /** Takes out the first that has arrived by a day; null if there is none. */
        Sent takeArrived(int day) {
            if (size < 1 || size > waiting.length) {
                return null;
            }
            Sent first = waiting[0];
            if (first == null || first.arrival > day) {
                return null;
            }
            size--;
            for (int i = 0; i < size; i++) {
                waiting[i] = waiting[i + 1];
            }
            waiting[size] = null;
            return first;
        }
    }

    /** What houses owe one another, and how many loans they had for nothing. */
    private static final class Accounts {
        /** What the house of the row owes the house of the column. */
        private final int[] debts;
        private final int[] homeCopies;
        private final int[] freeLoans;

        Accounts() {
            debts = new int[HOUSES * HOUSES];
            homeCopies = new int[HOUSES];
            freeLoans = new int[HOUSES];
        }

        void countHomeCopy(int home) {
            if (isHouse(home)) {
                homeCopies[home]++;
            }
        }

        void beginQuarter() {
            for (int house = 0; house < freeLoans.length; house++) {
                freeLoans[house] = 0;
            }
        }

        int freeLoansOf(int house) {
            return isHouse(house) ? freeLoans[house] : 0;
        }

        void charge(int house, int other, int sum) {
            if (isHouse(house) && isHouse(other)) {
                debts[house * HOUSES + other] += sum;
            }
        }

        void chargeLoan(int house, int home) {
            if (!isHouse(house)) {
                return;
            }
            if (homeCopies[house] <= SMALL_HOUSE_COPIES && freeLoans[house] < FREE_LOANS_A_QUARTER) {
                freeLoans[house]++;
            } else {
                charge(house, home, LOAN_FEE);
            }
        }

        int balance(int house, int other) {
            if (!isHouse(house) || !isHouse(other)) {
                return 0;
            }
            return debts[house * HOUSES + other] - debts[other * HOUSES + house];
        }

        /** Returns how many pairs of houses were not even. */
        int clearDebts() {
            int uneven = 0;
            for (int house = 0; house < HOUSES; house++) {
                for (int other = house + 1; other < HOUSES; other++) {
                    if (balance(house, other) != 0) {
                        uneven++;
                    }
                }
            }
            for (int i = 0; i < debts.length; i++) {
                debts[i] = 0;
            }
            return uneven;
        }
    }
}
