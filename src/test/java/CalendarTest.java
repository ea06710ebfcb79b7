/** A test for each sentence of the promises 10 to 14, calendar and people, that names a boundary. */
public final class CalendarTest {
    private static final int LEAST = Integer.MIN_VALUE;
    private static final int MOST = Integer.MAX_VALUE;
    private static final int[] NO_PEOPLE = {-1, 2, 7, 8, LEAST, MOST};

    public static void main(String[] args) {
        Check.runTestsOf(CalendarTest.class);
    }

    // ---- promise 10: today

    static void todayGoesFrom0To3600() {
        Leavebank book = new Leavebank();
        Check.due(book.today(), 0);
        for (int passed = 1; passed <= 9; passed++) {
            book.pass(400);
            Check.due(book.today(), 400 * passed);
        }
    }

    static void onlyPassChangesToday() {
        Leavebank book = Books.used();
        book.setHours(0, 200, 5);
        book.request(0, 200, 300, false);
        book.change(4, 300, 400);
        book.cancel(4);
        book.sick(0, 300, 400);
        book.payOut(0, 1);
        book.addPerson(40, 10);
        book.balance(0, 3600);
        Check.due(book.today(), 100);
    }

    // ---- promise 11: people

    static void thereAreFrom0To8People() {
        Leavebank book = new Leavebank();
        Check.due(book.people(), 0);
        for (int people = 1; people <= 8; people++) {
            book.addPerson(40, 10);
            Check.due(book.people(), people);
        }
    }

    // ---- promise 12: workingDays

    static void workingDaysCountsFromTheDay0On() {
        Check.due(new Leavebank().workingDays(0, 0), 1);
        Check.due(new Leavebank().workingDays(0, 7), 6);
        for (int first : new int[] {-1, -7, LEAST}) {
            Check.refused(Books::used, Check.ARGUMENT, book -> book.workingDays(first, 7));
            Check.refused(Books::used, Check.ARGUMENT, book -> book.workingDays(first, first));
        }
    }

    static void workingDaysCountsUpToTheDay3600() {
        Check.due(new Leavebank().workingDays(3600, 3600), 1);
        Check.due(new Leavebank().workingDays(3595, 3600), 4);
        for (int last : new int[] {3601, MOST}) {
            Check.refused(Books::used, Check.ARGUMENT, book -> book.workingDays(3595, last));
            Check.refused(Books::used, Check.ARGUMENT, book -> book.workingDays(last, last));
        }
    }

    static void workingDaysEndsOnItsFirstDayOrLater() {
        Check.due(new Leavebank().workingDays(8, 8), 1);
        for (int last : new int[] {7, 0, -1, LEAST}) {
            Check.refused(Books::used, Check.ARGUMENT, book -> book.workingDays(8, last));
        }
    }

    static void workingDaysCountsBothDays() {
        Leavebank book = new Leavebank();
        Check.due(book.workingDays(3, 4), 2);
        Check.due(book.workingDays(4, 5), 1);
        Check.due(book.workingDays(5, 6), 0);
        Check.due(book.workingDays(6, 7), 1);
        Check.due(book.workingDays(7, 8), 2);
        Check.due(book.workingDays(4, 7), 2);
    }

    static void workingDaysOfAllDays() {
        Check.due(new Leavebank().workingDays(0, 3600), 514 * 5 + 3);
    }

    static void workingDaysAreThoseThatAreCountedOneByOne() {
        for (int first = 0; first <= 14; first++) {
            Leavebank book = new Leavebank();
            int counted = 0;
            for (int last = first; last <= 100; last++) {
                counted += last % 7 < 5 ? 1 : 0;
                Check.due(book.workingDays(first, last), counted);
            }
        }
    }

    static void workingDaysNeedsNoPeopleAndKnowsNoLeave() {
        Check.due(new Leavebank().workingDays(63, 69), 5);
        Check.due(Books.used().workingDays(63, 69), 5);
    }

    // ---- promise 13: hours

    static void hoursNeedsAPerson() {
        Check.due(Books.used().hours(0, 100), 5);
        Check.due(Books.used().hours(1, 100), 8);
        Check.due(Books.fullOfPeople().hours(7, 100), 10);
        for (int person : NO_PEOPLE) {
            Check.refused(Books::used, Check.INDEX, book -> book.hours(person, 100));
        }
        Check.refused(Books::fullOfPeople, Check.INDEX, book -> book.hours(8, 100));
    }

    static void hoursAreToldFromTheFirstDayOn() {
        Check.due(Books.used().hours(0, 0), 10);
        Check.due(Books.used().hours(1, 45), 8);
        for (int day : new int[] {44, 0, -1, LEAST}) {
            Check.refused(Books::used, Check.ARGUMENT, book -> book.hours(1, day));
        }
        Check.refused(Books::used, Check.ARGUMENT, book -> book.hours(0, -1));
    }

    static void hoursAreToldUpToTheDay3600() {
        Check.due(Books.used().hours(1, 3600), 10);
        for (int day : new int[] {3601, MOST}) {
            Check.refused(Books::used, Check.ARGUMENT, book -> book.hours(1, day));
        }
    }

    static void hoursAreFrom1To10() {
        Leavebank book = Books.with(40, 1);
        Check.due(book.hours(0, 0), 1);
        book.setHours(0, 1, 10);
        Check.due(book.hours(0, 0), 1);
        Check.due(book.hours(0, 1), 10);
    }

    static void hoursThrowsForThePersonFirst() {
        Check.refused(Books::used, Check.INDEX, book -> book.hours(2, -1));
        Check.refused(Books::used, Check.INDEX, book -> book.hours(-1, 3601));
    }

    // ---- promise 14: onLeave

    static void onLeaveNeedsAPerson() {
        Check.due(Books.used().onLeave(0, 63), 2);
        Check.due(Books.used().onLeave(1, 50), 1);
        Check.due(Books.fullOfPeople().onLeave(7, 63), 0);
        for (int person : NO_PEOPLE) {
            Check.refused(Books::used, Check.INDEX, book -> book.onLeave(person, 63));
        }
        Check.refused(Books::fullOfPeople, Check.INDEX, book -> book.onLeave(8, 63));
    }

    static void onLeaveIsToldFromTheDay0On() {
        Leavebank book = Books.with(40, 10);
        book.request(0, 0, 0, true);
        Check.due(book.onLeave(0, 0), 1);
        for (int day : new int[] {-1, -7, LEAST}) {
            Check.refused(Books::used, Check.ARGUMENT, x -> x.onLeave(0, day));
        }
    }

    static void onLeaveIsToldUpToTheDay3600() {
        Leavebank book = Books.with(40, 10);
        book.request(0, 3600, 3600, true);
        Check.due(book.onLeave(0, 3599), 0);
        Check.due(book.onLeave(0, 3600), 1);
        for (int day : new int[] {3601, MOST}) {
            Check.refused(Books::used, Check.ARGUMENT, x -> x.onLeave(0, day));
        }
    }

    static void nobodyIsOnLeaveAheadOfTheFirstDay() {
        Leavebank book = Books.joinedOn(45, 40, 10);
        book.request(0, 45, 3600, false);
        for (int day = 0; day < 45; day++) {
            Check.due(book.onLeave(0, day), 0);
        }
        Check.due(book.onLeave(0, 45), 2);
    }

    static void unpaidLeaveIsLeave() {
        Leavebank book = Books.with(20, 1);
        book.request(0, 0, 7, false);
        Check.due(book.unpaid(0, 7), 1);
        Check.due(book.onLeave(0, 7), 2);
    }

    static void onLeaveThrowsForThePersonFirst() {
        Check.refused(Books::used, Check.INDEX, book -> book.onLeave(2, -1));
        Check.refused(Books::used, Check.INDEX, book -> book.onLeave(-1, 3601));
    }
}
