import java.util.ArrayList;
import java.util.HashSet;
import java.util.List;
import java.util.Set;

/** The document told once more, without thrift: nothing is kept that can be found by looking back. */
final class Model {
    static final int BAD_ARGUMENT = -1_000_001;
    static final int BAD_INDEX = -1_000_002;
    static final int BAD_STATE = -1_000_003;

    private static final class Book {
        int number;
        int home;
        int title;
        int at;
        boolean travels;
        int news = -1;
        int harmer = -1;
        boolean harmTold;
    }

    private static final class Wish {
        int house;
        int title;
        int state = UnionList.ASKING;
        Book book;
        int due;
        boolean recalled;
        final Set<Integer> asked = new HashSet<>();
    }

    private static final class Letter {
        int sentOn;
        int way;
        String kind;
        Book book;
        Wish wish;
    }

    private final List<Book> books = new ArrayList<>();
    private final List<Wish> wishes = new ArrayList<>();
    /** All that was ever sent, in the order of sending. */
    private final List<Letter> letters = new ArrayList<>();
    /** Debtor, creditor, sum. */
    private final List<int[]> bills = new ArrayList<>();
    /** House and day of each loan that was for nothing. */
    private final List<int[]> gifts = new ArrayList<>();
    private int day = 0;

    int addCopy(int home, int title) {
        if (home < 0 || home > 5 || title < 0 || title > 7) {
            return BAD_ARGUMENT;
        }
        if (books.size() == 20) {
            return BAD_STATE;
        }
        Book book = new Book();
        book.number = books.size();
        book.home = home;
        book.at = home;
        book.title = title;
        books.add(book);
        write("free", home + 1, book, null);
        return book.number;
    }

    int inHandsOf(int copy) {
        return noBook(copy) ? BAD_INDEX : books.get(copy).at;
    }

    int isFree(int copy) {
        return noBook(copy) ? BAD_INDEX : free(books.get(copy)) ? 1 : 0;
    }

    int listed(int copy) {
        return noBook(copy) ? BAD_INDEX : books.get(copy).news;
    }

    int harm(int copy) {
        if (noBook(copy)) {
            return BAD_INDEX;
        }
        Book book = books.get(copy);
        if (book.harmer >= 0) {
            return BAD_STATE;
        }
        return book.harmer = book.at;
    }

    int look(int copy) {
        if (noBook(copy)) {
            return BAD_INDEX;
        }
        return books.get(copy).travels ? BAD_STATE : find(books.get(copy));
    }

    int mend(int copy) {
        if (noBook(copy)) {
            return BAD_INDEX;
        }
        Book book = books.get(copy);
        if (book.travels || book.at != book.home || !book.harmTold) {
            return BAD_STATE;
        }
        book.harmer = -1;
        book.harmTold = false;
        write("free", book.home + 1, book, null);
        return 0;
    }

    int request(int house, int title) {
        if (house < 0 || house > 5 || title < 0 || title > 7) {
            return BAD_ARGUMENT;
        }
        if (wishes.size() == 40) {
            return BAD_STATE;
        }
        Wish wish = new Wish();
        wish.house = house;
        wish.title = title;
        wishes.add(wish);
        ask(wish);
        return wishes.size() - 1;
    }

    int state(int request) {
        return noWish(request) ? BAD_INDEX : wishes.get(request).state;
    }

    int copyOf(int request) {
        if (noWish(request)) {
            return BAD_INDEX;
        }
        Book book = wishes.get(request).book;
        return book == null ? -1 : book.number;
    }

    int due(int request) {
        if (noWish(request)) {
            return BAD_INDEX;
        }
        Wish wish = wishes.get(request);
        return wish.state == UnionList.LOAN ? wish.due : BAD_STATE;
    }

    int renew(int request) {
        if (noWish(request)) {
            return BAD_INDEX;
        }
        Wish wish = wishes.get(request);
        if (wish.state != UnionList.LOAN) {
            return BAD_STATE;
        }
        write("renewal", between(wish), wish.book, wish);
        return day + between(wish);
    }

    int recall(int request) {
        if (noWish(request)) {
            return BAD_INDEX;
        }
        Wish wish = wishes.get(request);
        if (wish.state != UnionList.LOAN || wish.recalled) {
            return BAD_STATE;
        }
        wish.recalled = true;
        write("recall", between(wish), wish.book, wish);
        return day + between(wish);
    }

    int sendBack(int request) {
        if (noWish(request)) {
            return BAD_INDEX;
        }
        Wish wish = wishes.get(request);
        if (wish.state != UnionList.LOAN) {
            return BAD_STATE;
        }
        int late = day > wish.due ? day - wish.due : 0;
        bills.add(new int[] {wish.house, wish.book.home, late});
        wish.state = UnionList.GOING_BACK;
        wish.book.travels = true;
        write("home", between(wish), wish.book, wish);
        return late;
    }

    int pass(int days) {
        if (days < 1 || days > 100) {
            return BAD_ARGUMENT;
        }
        int count = 0;
        for (int i = 0; i < days; i++) {
            day++;
            for (Letter letter : new ArrayList<>(letters)) {
                if (letter.sentOn + letter.way == day) {
                    count++;
                    open(letter);
                }
            }
            letters.removeIf(letter -> letter.sentOn + letter.way <= day);
        }
        return count;
    }

    int today() {
        return day;
    }

    int owes(int house, int other) {
        if (house < 0 || house > 5 || other < 0 || other > 5) {
            return BAD_ARGUMENT;
        }
        int sum = 0;
        for (int[] bill : bills) {
            sum += bill[0] == house && bill[1] == other ? bill[2] : 0;
            sum -= bill[1] == house && bill[0] == other ? bill[2] : 0;
        }
        return sum;
    }

    int settle() {
        int ordered = 0;
        for (int i = 0; i < 36; i++) {
            ordered += owes(i / 6, i % 6) != 0 ? 1 : 0;
        }
        bills.clear();
        return ordered / 2;
    }

    int quota(int house) {
        if (house < 0 || house > 5) {
            return BAD_ARGUMENT;
        }
        int count = 0;
        for (int[] gift : gifts) {
            count += gift[0] == house && gift[1] / 90 == day / 90 ? 1 : 0;
        }
        return count;
    }

    int made() {
        return wishes.size();
    }

    private boolean noBook(int copy) {
        return copy < 0 || copy >= books.size();
    }

    private boolean noWish(int request) {
        return request < 0 || request >= wishes.size();
    }

    private static boolean free(Book book) {
        return !book.travels && book.at == book.home && !book.harmTold;
    }

    private static int between(Wish wish) {
        int way = wish.house - wish.book.home;
        return (way < 0 ? -way : way) + 1;
    }

    private void write(String kind, int way, Book book, Wish wish) {
        Letter letter = new Letter();
        letter.sentOn = day;
        letter.way = way;
        letter.kind = kind;
        letter.book = book;
        letter.wish = wish;
        letters.add(letter);
    }

    private void ask(Wish wish) {
        for (int way = 1; way <= 6; way++) {
            for (Book book : books) {
                int difference = book.home - wish.house;
                if (book.title == wish.title && book.news == 1 && difference != 0
                        && difference * difference == (way - 1) * (way - 1) && !wish.asked.contains(book.home)) {
                    wish.book = book;
                    wish.asked.add(book.home);
                    write("question", way, book, wish);
                    return;
                }
            }
        }
        wish.book = null;
        wish.state = UnionList.FAILED;
    }

    private int find(Book book) {
        if (book.harmer < 0 || book.harmTold) {
            return -1;
        }
        book.harmTold = true;
        bills.add(new int[] {book.harmer, book.home, book.harmer == book.home ? 0 : 30});
        return book.harmer;
    }

    private void open(Letter letter) {
        Book book = letter.book;
        Wish wish = letter.wish;
        switch (letter.kind) {
            case "free":
                book.news = 1;
                break;
            case "away":
                book.news = 0;
                break;
            case "question":
                if (free(book)) {
                    book.travels = true;
                    wish.state = UnionList.COMING;
                    write("loan", between(wish), book, wish);
                    write("away", book.home + 1, book, null);
                } else {
                    ask(wish);
                }
                break;
            case "loan":
                book.travels = false;
                book.at = wish.house;
                wish.state = UnionList.LOAN;
                wish.due = day + 20;
                pay(wish.house, book.home);
                break;
            case "home":
                book.travels = false;
                book.at = book.home;
                wish.state = UnionList.OVER;
                find(book);
                if (free(book)) {
                    write("free", book.home + 1, book, null);
                }
                break;
            case "renewal":
                wish.due += wish.state == UnionList.LOAN && !wish.recalled ? 20 : 0;
                break;
            default:
                wish.due = wish.state == UnionList.LOAN && wish.due > day + 5 ? day + 5 : wish.due;
                break;
        }
    }

    private void pay(int house, int home) {
        long own = books.stream().filter(book -> book.home == house).count();
        if (own <= 2 && quota(house) < 2) {
            gifts.add(new int[] {house, day});
        } else {
            bills.add(new int[] {house, home, 6});
        }
    }
}
