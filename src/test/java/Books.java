/** Books for the tests: each of these makes a new one, in the same way each time. */
final class Books {
    private Books() {
    }

    /** One person, whose first day is the day 0; today is the day 0. */
    static Leavebank with(int right, int hours) {
        return joinedOn(0, right, hours);
    }

    /** One person, whose first day is this one, which is today. */
    static Leavebank joinedOn(int day, int right, int hours) {
        Leavebank book = new Leavebank();
        passTo(book, day);
        book.addPerson(right, hours);
        return book;
    }

    /**
     * One person, who earns 500 points a month; today is the day 30, and the lots have so many of the 500
     * behind it.
     */
    static Leavebank withPoints(int points) {
        Leavebank book = with(25, 10);
        passTo(book, 30);
        if (points < 500) {
            book.payOut(0, 500 - points);
        }
        return book;
    }

    /** Two people, and some of all that can be entered; today is the day 100. */
    static Leavebank used() {
        Leavebank book = with(40, 10);
        passTo(book, 45);
        book.addPerson(30, 8);
        book.request(0, 63, 69, false);
        book.request(1, 50, 60, true);
        book.request(0, 77, 90, false);
        book.request(1, 400, 410, false);
        book.cancel(2);
        book.setHours(0, 50, 5);
        book.setHours(1, 200, 10);
        book.sick(0, 64, 65);
        book.sick(1, 57, 58);
        passTo(book, 100);
        book.payOut(0, 50);
        return book;
    }

    static Leavebank fullOfPeople() {
        Leavebank book = used();
        while (book.people() < 8) {
            book.addPerson(20 + book.people(), 10);
        }
        return book;
    }

    /** 10 changes of the person 1: for each tenth day from 110 to 190, and for 200. */
    static Leavebank fullOfChanges() {
        Leavebank book = used();
        for (int day = 110; day < 200; day += 10) {
            book.setHours(1, day, 4);
        }
        return book;
    }

    /** 40 requests: 4 as in a used book, of which the number 2 is cancelled, and 36 more. */
    static Leavebank fullOfRequests() {
        Leavebank book = used();
        for (int number = 4; number < 40; number++) {
            book.request(number % 2, 500 + number, 500 + number, number % 3 == 0);
        }
        return book;
    }

    /** 30 spells: 2 as in a used book, and 28 more. */
    static Leavebank fullOfSpells() {
        Leavebank book = used();
        for (int spells = 3; spells <= 30; spells++) {
            book.sick(spells % 2, 400 + spells, 401 + spells);
        }
        return book;
    }

    /** 20 payouts: one as in a used book, then 19 more on the day 500, on which both people have points left. */
    static Leavebank fullOfPayouts() {
        Leavebank book = used();
        passTo(book, 500);
        for (int number = 1; number < 20; number++) {
            book.payOut(number % 2, number);
        }
        return book;
    }

    static void passTo(Leavebank book, int day) {
        while (book.today() < day) {
            book.pass(Math.min(400, day - book.today()));
        }
    }
}
