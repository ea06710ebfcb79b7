/** A test for each sentence of the promises 15 to 23, the balances, that names a boundary. */
public final class BalancesTest {
    private static final int LEAST = Integer.MIN_VALUE;
    private static final int MOST = Integer.MAX_VALUE;

    public static void main(String[] args) {
        Check.runTestsOf(BalancesTest.class);
    }

    // ---- what the arguments of all of them have in common

    /** A used book has two people. */
    private static void needsAPerson(Check.Question question) {
        for (int person : new int[] {-1, 2, 7, 8, LEAST, MOST}) {
            Check.refused(Books::used, Check.INDEX, book -> question.ask(book, person, 100));
        }
        Check.refused(Leavebank::new, Check.INDEX, book -> question.ask(book, 0, 0));
        Check.refused(Books::fullOfPeople, Check.INDEX, book -> question.ask(book, 8, 100));
    }

    private static void isToldFromTheDay0To3600(Check.Question question) {
        for (int day : new int[] {-1, LEAST, 3601, MOST}) {
            Check.refused(Books::used, Check.ARGUMENT, book -> question.ask(book, 0, day));
            Check.refused(Books::used, Check.ARGUMENT, book -> question.ask(book, 1, day));
        }
    }

    private static void throwsForThePersonFirst(Check.Question question) {
        Check.refused(Books::used, Check.INDEX, book -> question.ask(book, 2, -1));
        Check.refused(Books::used, Check.INDEX, book -> question.ask(book, -1, 3601));
    }

    /** The person's first day is the day 45, on which leave begins. */
    private static void isAheadOfTheFirstDay(Check.Question question, int want) {
        Leavebank book = Books.joinedOn(45, 40, 10);
        book.request(0, 45, 60, false);
        Check.due(question.ask(book, 0, 0), want);
        Check.due(question.ask(book, 0, 44), want);
    }

    // ---- promise 15: balance

    static void balanceNeedsAPerson() {
        needsAPerson(Leavebank::balance);
        Check.due(Books.used().balance(0, 90), 160);
        Check.due(Books.used().balance(1, 90), 480 - 7 * 240);
        Check.due(Books.fullOfPeople().balance(7, 150), 2 * 27 * 10);
    }

    static void balanceIsToldFromTheDay0To3600() {
        isToldFromTheDay0To3600(Leavebank::balance);
        Leavebank book = Books.with(40, 10);
        book.request(0, 0, 0, false);
        Check.due(book.balance(0, 0), -480);
        Check.due(book.balance(0, 3600), 12 * 2 * 46 * 10);
    }

    static void balanceThrowsForThePersonFirst() {
        throwsForThePersonFirst(Leavebank::balance);
    }

    static void balanceIs0AheadOfTheFirstDay() {
        isAheadOfTheFirstDay(Leavebank::balance, 0);
        Leavebank book = Books.joinedOn(45, 40, 10);
        book.request(0, 45, 45, false);
        Check.due(book.balance(0, 45), -480);
    }

    static void balanceIs2400LessThanNothingAtLeast() {
        Leavebank book = Books.with(20, 1);
        book.request(0, 0, 3600, false);
        Check.due(book.balance(0, 3), -1920);
        Check.due(book.balance(0, 4), -2400);
        Check.due(book.balance(0, 7), -2400);
    }

    static void balanceIsMostOnTheDayAheadOfExpiry() {
        Leavebank book = Books.with(80, 10);
        Check.due(book.balance(0, 3329), 11 * 1680 + 3 * 1720);
        Check.due(book.balance(0, 3330), 3 * 1720);
    }

    static void balanceMayLieAheadOfToday() {
        Leavebank book = Books.with(40, 10);
        Check.due(book.today(), 0);
        Check.due(book.balance(0, 360), 12 * 800);
    }

    // ---- promise 16: balanceBySums

    static void balanceBySumsNeedsAPerson() {
        needsAPerson(Leavebank::balanceBySums);
        Check.due(Books.used().balanceBySums(0, 90), 160);
        Check.due(Books.used().balanceBySums(1, 90), 480 - 7 * 240);
    }

    static void balanceBySumsIsToldFromTheDay0To3600() {
        isToldFromTheDay0To3600(Leavebank::balanceBySums);
        Leavebank book = Books.with(40, 10);
        book.request(0, 0, 0, false);
        Check.due(book.balanceBySums(0, 0), -480);
        Check.due(book.balanceBySums(0, 3600), 12 * 2 * 46 * 10);
    }

    static void balanceBySumsThrowsForThePersonFirst() {
        throwsForThePersonFirst(Leavebank::balanceBySums);
    }

    static void balanceBySumsIs0AheadOfTheFirstDay() {
        isAheadOfTheFirstDay(Leavebank::balanceBySums, 0);
    }

    static void balanceBySumsIsTheBalanceOnEachDay() {
        for (int first = 0; first <= 3600; first += 100) {
            Leavebank book = Books.fullOfPayouts();
            for (int day = first; day < first + 100 && day <= 3600; day++) {
                Check.due(book.balanceBySums(0, day), book.balance(0, day));
                Check.due(book.balanceBySums(1, day), book.balance(1, day));
            }
        }
    }

    static void balanceBySumsIsWhatTheSumsGive() {
        Leavebank book = Books.fullOfPayouts();
        for (int day : new int[] {0, 30, 69, 100, 360, 449, 450, 499, 500, 809, 810, 3600}) {
            for (int person = 0; person < 2; person++) {
                int sums = book.earned(person, day) - book.taken(person, day) - book.expired(person, day)
                        - book.paid(person, day);
                Check.due(book.balanceBySums(person, day), sums);
            }
        }
    }

    // ---- promise 17: earned

    static void earnedNeedsAPerson() {
        needsAPerson(Leavebank::earned);
        Check.due(Books.used().earned(0, 90), 800 + 400 + 400);
        Check.due(Books.used().earned(1, 90), 480);
    }

    static void earnedIsToldFromTheDay0To3600() {
        isToldFromTheDay0To3600(Leavebank::earned);
        Leavebank book = Books.with(40, 10);
        Check.due(book.earned(0, 0), 0);
        Check.due(book.earned(0, 3599), 35 * 800 + 36 * 840 + 36 * 880 + 12 * 920);
        Check.due(book.earned(0, 3600), 35 * 800 + 36 * 840 + 36 * 880 + 13 * 920);
    }

    static void earnedThrowsForThePersonFirst() {
        throwsForThePersonFirst(Leavebank::earned);
    }

    static void earnedCountsUpToAndWithTheDay() {
        Leavebank book = Books.with(40, 10);
        Check.due(book.earned(0, 29), 0);
        Check.due(book.earned(0, 30), 800);
        Check.due(book.earned(0, 59), 800);
        Check.due(book.earned(0, 60), 1600);
    }

    static void nothingIsEarnedAheadOfTheFirstDay() {
        isAheadOfTheFirstDay(Leavebank::earned, 0);
    }

    static void whatIsUsedUpStaysEarned() {
        Leavebank book = Books.withPoints(0);
        Check.due(book.balance(0, 30), 0);
        Check.due(book.earned(0, 30), 500);
        Check.due(book.earned(0, 450), 15 * 500);
    }

    // ---- promise 18: taken

    static void takenNeedsAPerson() {
        needsAPerson(Leavebank::taken);
        Check.due(Books.used().taken(0, 90), 3 * 480);
        Check.due(Books.used().taken(1, 90), 7 * 240);
    }

    static void takenIsToldFromTheDay0To3600() {
        isToldFromTheDay0To3600(Leavebank::taken);
        Leavebank book = Books.with(40, 10);
        book.request(0, 0, 0, true);
        book.request(0, 3600, 3600, true);
        Check.due(book.taken(0, 0), 240);
        Check.due(book.taken(0, 3599), 240);
        Check.due(book.taken(0, 3600), 480);
    }

    static void takenThrowsForThePersonFirst() {
        throwsForThePersonFirst(Leavebank::taken);
    }

    static void takenCountsUpToAndWithTheDay() {
        Leavebank book = Books.with(40, 10);
        book.request(0, 35, 36, false);
        Check.due(book.taken(0, 34), 0);
        Check.due(book.taken(0, 35), 480);
        Check.due(book.taken(0, 36), 960);
        Check.due(book.taken(0, 37), 960);
    }

    static void nothingIsTakenAheadOfTheFirstDay() {
        isAheadOfTheFirstDay(Leavebank::taken, 0);
    }

    static void nothingIsTakenOnAFreeDay() {
        Leavebank book = Books.with(40, 10);
        book.request(0, 4, 7, true);
        Check.due(book.taken(0, 4), 240);
        Check.due(book.taken(0, 6), 240);
        Check.due(book.taken(0, 7), 480);
    }

    // ---- promise 19: expired

    static void expiredNeedsAPerson() {
        needsAPerson(Leavebank::expired);
        Check.due(Books.used().expired(0, 450), 800 + 11 * 400 - 3 * 480 - 50);
        Check.due(Books.used().expired(1, 450), 0);
    }

    static void expiredIsToldFromTheDay0To3600() {
        isToldFromTheDay0To3600(Leavebank::expired);
        Leavebank book = Books.with(40, 10);
        Check.due(book.expired(0, 0), 0);
        Check.due(book.expired(0, 3600), 35 * 800 + 36 * 840 + 36 * 880 + 920);
    }

    static void expiredThrowsForThePersonFirst() {
        throwsForThePersonFirst(Leavebank::expired);
    }

    static void expiredCountsUpToAndWithTheDay() {
        Leavebank book = Books.with(40, 10);
        Check.due(book.expired(0, 449), 0);
        Check.due(book.expired(0, 450), 12 * 800);
        Check.due(book.expired(0, 809), 12 * 800);
        Check.due(book.expired(0, 810), 24 * 800);
    }

    static void nothingExpiresAheadOfTheFirstDay() {
        isAheadOfTheFirstDay(Leavebank::expired, 0);
        Leavebank book = Books.joinedOn(460, 40, 10);
        Check.due(book.expired(0, 450), 0);
        Check.due(book.expired(0, 809), 0);
        Check.due(book.expired(0, 810), 8 * 800);
    }

    // ---- promise 20: paid

    static void paidNeedsAPerson() {
        needsAPerson(Leavebank::paid);
        Check.due(Books.fullOfPayouts().paid(0, 500), 50 + 90);
        Check.due(Books.fullOfPayouts().paid(1, 500), 100);
    }

    static void paidIsToldFromTheDay0To3600() {
        isToldFromTheDay0To3600(Leavebank::paid);
        Leavebank book = Books.with(40, 10);
        Books.passTo(book, 3600);
        book.payOut(0, 7);
        Check.due(book.paid(0, 0), 0);
        Check.due(book.paid(0, 3599), 0);
        Check.due(book.paid(0, 3600), 7);
    }

    static void paidThrowsForThePersonFirst() {
        throwsForThePersonFirst(Leavebank::paid);
    }

    static void paidCountsUpToAndWithTheDay() {
        Leavebank book = Books.withPoints(400);
        book.pass(1);
        book.payOut(0, 30);
        Check.due(book.paid(0, 29), 0);
        Check.due(book.paid(0, 30), 100);
        Check.due(book.paid(0, 31), 130);
        Check.due(book.paid(0, 3600), 130);
    }

    static void nothingIsPaidAheadOfTheFirstDay() {
        isAheadOfTheFirstDay(Leavebank::paid, 0);
    }

    // ---- promise 21: borrowed

    static void borrowedNeedsAPerson() {
        needsAPerson(Leavebank::borrowed);
        Check.due(Books.used().borrowed(0, 89), 240);
        Check.due(Books.used().borrowed(1, 89), 7 * 240);
    }

    static void borrowedIsToldFromTheDay0To3600() {
        isToldFromTheDay0To3600(Leavebank::borrowed);
        Leavebank early = Books.with(20, 1);
        early.request(0, 0, 0, false);
        Check.due(early.borrowed(0, 0), 480);
        Leavebank late = Books.joinedOn(3599, 20, 1);
        late.request(0, 3599, 3600, false);
        Check.due(late.borrowed(0, 3599), 480);
        Check.due(late.borrowed(0, 3600), 960);
    }

    static void borrowedThrowsForThePersonFirst() {
        throwsForThePersonFirst(Leavebank::borrowed);
    }

    static void borrowedIs0To2400() {
        Leavebank book = Books.with(20, 1);
        Check.due(book.borrowed(0, 0), 0);
        book.request(0, 0, 20, false);
        Check.due(book.borrowed(0, 4), 2400);
        Check.due(book.borrowed(0, 20), 2400);
    }

    static void borrowedIsThatBehindTheDay() {
        Leavebank book = Books.with(25, 10);
        book.request(0, 28, 29, false);
        Check.due(book.borrowed(0, 27), 0);
        Check.due(book.borrowed(0, 28), 480);
        Check.due(book.borrowed(0, 29), 960);
        Check.due(book.borrowed(0, 30), 460);
        Check.due(book.borrowed(0, 60), 0);
    }

    static void nothingIsBorrowedAheadOfTheFirstDay() {
        isAheadOfTheFirstDay(Leavebank::borrowed, 0);
    }

    // ---- promise 22: unpaid

    static void unpaidNeedsAPerson() {
        needsAPerson(Leavebank::unpaid);
        Check.due(Books.used().unpaid(0, 3600), 0);
        Leavebank book = Books.used();
        book.request(1, 45, 56, false);
        Check.due(book.unpaid(1, 60), 10 - 5);
        Check.due(book.unpaid(0, 60), 0);
    }

    static void unpaidIsToldFromTheDay0To3600() {
        isToldFromTheDay0To3600(Leavebank::unpaid);
        Leavebank book = Books.joinedOn(3591, 20, 1);
        book.request(0, 3591, 3600, false);
        Check.due(book.unpaid(0, 0), 0);
        Check.due(book.unpaid(0, 3595), 0);
        Check.due(book.unpaid(0, 3599), 2);
        Check.due(book.unpaid(0, 3600), 3);
    }

    static void unpaidThrowsForThePersonFirst() {
        throwsForThePersonFirst(Leavebank::unpaid);
    }

    static void unpaidCountsUpToAndWithTheDay() {
        Leavebank book = Books.with(20, 1);
        book.request(0, 0, 8, false);
        Check.due(book.unpaid(0, 4), 0);
        Check.due(book.unpaid(0, 6), 0);
        Check.due(book.unpaid(0, 7), 1);
        Check.due(book.unpaid(0, 8), 2);
        Check.due(book.unpaid(0, 3600), 2);
    }

    static void halfDaysOfLeaveAreUnpaidDaysToo() {
        Leavebank book = Books.with(20, 1);
        book.request(0, 0, 4, false);
        book.request(0, 7, 8, true);
        Check.due(book.unpaid(0, 7), 1);
        Check.due(book.unpaid(0, 8), 2);
    }

    static void freeDaysAndSickDaysAreNotUnpaid() {
        Leavebank book = Books.with(20, 1);
        book.request(0, 0, 11, false);
        book.sick(0, 8, 9);
        Check.due(book.unpaid(0, 6), 0);
        Check.due(book.unpaid(0, 11), 3);
    }

    static void nothingIsUnpaidAheadOfTheFirstDay() {
        isAheadOfTheFirstDay(Leavebank::unpaid, 0);
    }

    // ---- promise 23: nextExpiry

    static void nextExpiryNeedsAPerson() {
        needsAPerson(Leavebank::nextExpiry);
        Check.due(Books.used().nextExpiry(0, 100), 450);
        Check.due(Books.used().nextExpiry(1, 100), Leavebank.NONE);
    }

    static void nextExpiryIsToldFromTheDay0To3600() {
        isToldFromTheDay0To3600(Leavebank::nextExpiry);
        Leavebank book = Books.with(40, 10);
        Check.due(book.nextExpiry(0, 0), Leavebank.NONE);
        Check.due(book.nextExpiry(0, 3600), 3690);
    }

    static void nextExpiryThrowsForThePersonFirst() {
        throwsForThePersonFirst(Leavebank::nextExpiry);
    }

    static void thereIsNoExpiryAheadOfTheFirstDay() {
        isAheadOfTheFirstDay(Leavebank::nextExpiry, Leavebank.NONE);
    }

    static void thereIsNoExpiryWithoutLots() {
        Leavebank book = Books.with(40, 10);
        Check.due(book.nextExpiry(0, 29), Leavebank.NONE);
        Check.due(book.nextExpiry(0, 30), 450);
    }

    static void thereIsNoExpiryOfLotsWithoutPoints() {
        Check.due(Books.withPoints(1).nextExpiry(0, 30), 450);
        Check.due(Books.withPoints(0).nextExpiry(0, 30), Leavebank.NONE);
    }

    static void lotsWithoutPointsArePassedOver() {
        Leavebank book = Books.with(25, 10);
        Books.passTo(book, 390);
        book.payOut(0, 12 * 500);
        Check.due(book.nextExpiry(0, 389), 450);
        Check.due(book.nextExpiry(0, 390), 810);
    }

    static void nextIsTheLotThatExpiresFirst() {
        Leavebank book = Books.with(40, 10);
        Check.due(book.nextExpiry(0, 390), 450);
        Check.due(book.nextExpiry(0, 449), 450);
    }

    static void aLotThatExpiresOnTheDayIsNotBehindIt() {
        Leavebank book = Books.with(40, 10);
        Check.due(book.nextExpiry(0, 450), 810);
        Check.due(book.nextExpiry(0, 809), 810);
        Check.due(book.nextExpiry(0, 810), 1170);
    }

    static void whatIsTakenLaterDoesNotMatter() {
        Leavebank book = Books.withPoints(480);
        book.request(0, 31, 31, false);
        Check.due(book.nextExpiry(0, 30), 450);
        Check.due(book.nextExpiry(0, 31), Leavebank.NONE);
    }
}
