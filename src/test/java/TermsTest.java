import java.util.function.Consumer;

/** A test for each sentence of the document's "Terms", and of what is ahead of them, that names a boundary. */
public final class TermsTest {
    public static void main(String[] args) {
        Check.runTestsOf(TermsTest.class);
    }

    // ---- what it is

    static void the512thCallIsAnswered() {
        Leavebank book = new Leavebank();
        Check.due(book.addPerson(40, 10), 0);
        for (int call = 2; call <= 510; call++) {
            Check.due(book.balance(0, 60), 1600);
        }
        Check.due(book.request(0, 31, 31, false), 0);
        Check.due(book.balance(0, 60), 1120);
    }

    static void asMuchAsCanBeEnteredFitsInOneBook() {
        Leavebank book = filledUp();
        Check.due(book.people(), 8);
        for (int person = 0; person < 8; person++) {
            Check.due(book.hours(person, 1000), 1);
            Check.due(book.hours(person, 1009), 10);
            Check.due(book.onLeave(person, 105), 0);
            Check.due(book.onLeave(person, 106), person < 6 ? 0 : 2);
            Check.due(book.taken(person, 109), person < 6 ? 3 * 480 : 4 * 480);
            Check.due(book.balance(person, 3600), 12 * 1720);
            Check.due(book.balanceBySums(person, 3600), 12 * 1720);
        }
        Check.due(book.paid(0, 120), 20);
    }

    static void oneMoreThanCanBeEnteredIsRefused() {
        refusedWhenFilledUp(book -> book.addPerson(80, 10));
        for (int person = 0; person < 8; person++) {
            int number = person;
            refusedWhenFilledUp(book -> book.setHours(number, 999, 5));
        }
        refusedWhenFilledUp(book -> book.request(7, 200, 200, false));
        refusedWhenFilledUp(book -> book.sick(7, 200, 200));
        refusedWhenFilledUp(book -> book.payOut(7, 1));
    }

    private static void refusedWhenFilledUp(Consumer<Leavebank> call) {
        Check.refused(TermsTest::filledUp, Check.STATE, call);
    }

    /** 8 people of the same right, 10 changes for each, 40 requests, 30 spells and 20 payouts. */
    private static Leavebank filledUp() {
        Leavebank book = new Leavebank();
        for (int person = 0; person < 8; person++) {
            book.addPerson(80, 10);
            for (int change = 0; change < 10; change++) {
                book.setHours(person, 1000 + change, change + 1);
            }
        }
        for (int number = 0; number < 40; number++) {
            book.request(number % 8, 105 + number / 8, 105 + number / 8, false);
        }
        for (int spell = 0; spell < 30; spell++) {
            book.sick(spell % 8, 102 + spell / 8, 103 + spell / 8);
        }
        Books.passTo(book, 120);
        for (int number = 0; number < 20; number++) {
            book.payOut(0, 1);
        }
        return book;
    }

    // ---- calls that throw

    static void callsThatThrowChangeNothing() {
        Check.same(() -> {
            Leavebank book = Books.used();
            callWrongly(book);
            return book;
        }, Books::used);
    }

    private static void callWrongly(Leavebank book) {
        mustThrow(() -> book.addPerson(81, 10));
        mustThrow(() -> book.addPerson(80, 11));
        mustThrow(() -> book.setHours(2, 100, 1));
        mustThrow(() -> book.setHours(1, 44, 1));
        mustThrow(() -> book.setHours(1, 45, 11));
        mustThrow(() -> book.request(2, 100, 101, false));
        mustThrow(() -> book.request(1, 44, 101, false));
        mustThrow(() -> book.request(1, 100, 99, false));
        mustThrow(() -> book.request(1, 100, 3601, false));
        mustThrow(() -> book.change(4, 100, 101));
        mustThrow(() -> book.change(3, 44, 101));
        mustThrow(() -> book.change(0, 63, 3601));
        mustThrow(() -> book.change(2, 100, 101));
        mustThrow(() -> book.cancel(2));
        mustThrow(() -> book.cancel(4));
        mustThrow(() -> book.sick(2, 63, 63));
        mustThrow(() -> book.sick(0, 63, 62));
        mustThrow(() -> book.sick(0, 63, 3601));
        mustThrow(() -> book.payOut(0, 0));
        mustThrow(() -> book.payOut(0, 20000));
        mustThrow(() -> book.pass(401));
        mustThrow(() -> book.balance(0, 3601));
    }

    private static void mustThrow(Runnable call) {
        int answered = 1;
        try {
            call.run();
        } catch (RuntimeException e) {
            answered = 0;
        }
        Check.due(answered, 0);
    }

    // ---- calendar

    static void todayIsTheDay0AtFirst() {
        Check.due(new Leavebank().today(), 0);
    }

    static void aMonthHas30Days() {
        Leavebank book = Books.with(40, 5);
        for (int month = 0; month < 9; month++) {
            Check.due(book.earned(0, 30 * month), 400 * month);
            Check.due(book.earned(0, 30 * month + 1), 400 * month);
            Check.due(book.earned(0, 30 * month + 29), 400 * month);
        }
    }

    static void aYearHas360Days() {
        Check.due(Books.joinedOn(300, 40, 10).nextExpiry(0, 330), 450);
        Check.due(Books.joinedOn(330, 40, 10).nextExpiry(0, 360), 450);
        Check.due(Books.joinedOn(360, 40, 10).nextExpiry(0, 390), 810);
        Check.due(Books.joinedOn(690, 40, 10).nextExpiry(0, 720), 810);
        Check.due(Books.joinedOn(720, 40, 10).nextExpiry(0, 750), 1170);
    }

    static void aWorkingDayHasARemainderBy7OfLessThan5() {
        Leavebank book = Books.with(40, 10);
        book.request(0, 0, 3600, true);
        for (int day : new int[] {0, 1, 3, 4, 7, 11, 14, 3591, 3595, 3598, 3599, 3600}) {
            Check.due(book.onLeave(0, day), 1);
            Check.due(book.workingDays(day, day), 1);
        }
        for (int day : new int[] {5, 6, 12, 13, 3589, 3590, 3596, 3597}) {
            Check.due(book.onLeave(0, day), 0);
            Check.due(book.workingDays(day, day), 0);
        }
    }

    // ---- points

    static void halfADayOfLeaveIs240Points() {
        Leavebank book = Books.with(40, 10);
        book.request(0, 31, 31, true);
        Check.due(book.taken(0, 31), 240);
        Check.due(book.balance(0, 31), 800 - 240);
    }

    static void aDayOfLeaveIs480Points() {
        Leavebank book = Books.with(40, 10);
        book.request(0, 31, 31, false);
        Check.due(book.taken(0, 31), 480);
        Check.due(book.balance(0, 31), 800 - 480);
    }

    // ---- people

    static void the8PeopleHaveBooksOfTheirOwn() {
        Leavebank book = new Leavebank();
        for (int person = 0; person < 8; person++) {
            book.addPerson(20 + person, 10);
        }
        book.request(3, 1, 1, false);
        for (int person = 0; person < 8; person++) {
            Check.due(book.earned(person, 30), 20 * (20 + person));
            Check.due(book.borrowed(person, 1), person == 3 ? 480 : 0);
        }
    }

    static void serviceCountsFullYearsSinceTheFirstDay() {
        Check.due(bonusOf(0, 1050), 0);
        Check.due(bonusOf(0, 1080), 2);
        Check.due(bonusOf(1, 1080), 0);
        Check.due(bonusOf(1, 1110), 2);
        Check.due(bonusOf(29, 1080), 0);
        Check.due(bonusOf(29, 1110), 2);
        Check.due(bonusOf(30, 1080), 0);
        Check.due(bonusOf(30, 1110), 2);
        Check.due(bonusOf(31, 1110), 0);
        Check.due(bonusOf(31, 1140), 2);
    }

    static void thereAre2MoreForEach3FullYears() {
        Check.due(bonusOf(0, 1440), 2);
        Check.due(bonusOf(0, 1800), 2);
        Check.due(bonusOf(0, 2130), 2);
        Check.due(bonusOf(0, 2160), 4);
        Check.due(bonusOf(0, 3210), 4);
        Check.due(bonusOf(0, 3240), 6);
    }

    /** The 10 that are the most would need 15 years; within 3600 days there are but 10. */
    static void theMostServiceWithin3600DaysGives6More() {
        Check.due(bonusOf(0, 3600), 6);
    }

    static void whatServiceGivesMayGoAboveTheMostRight() {
        Leavebank book = Books.with(80, 10);
        Check.due(earnedOn(book, 1050), 2 * 80 * 10);
        Check.due(earnedOn(book, 1080), 2 * 82 * 10);
        Check.due(earnedOn(book, 3600), 2 * 86 * 10);
    }

    private static int bonusOf(int firstDay, int day) {
        return earnedOn(Books.joinedOn(firstDay, 20, 10), day) / (2 * 10) - 20;
    }

    private static int earnedOn(Leavebank book, int day) {
        return book.earned(0, day) - book.earned(0, day - 1);
    }

    // ---- what happens on a day: 1, earning

    static void theMonthBeforeMustBeginOnTheFirstDayOrLater() {
        Check.due(Books.joinedOn(29, 40, 10).earned(0, 59), 0);
        Check.due(Books.joinedOn(29, 40, 10).earned(0, 60), 800);
        Check.due(Books.joinedOn(30, 40, 10).earned(0, 59), 0);
        Check.due(Books.joinedOn(30, 40, 10).earned(0, 60), 800);
        Check.due(Books.joinedOn(31, 40, 10).earned(0, 89), 0);
        Check.due(Books.joinedOn(31, 40, 10).earned(0, 90), 800);
    }

    static void nothingIsEarnedOnTheFirstDay() {
        Check.due(Books.joinedOn(0, 40, 10).earned(0, 0), 0);
        Check.due(Books.joinedOn(30, 40, 10).earned(0, 30), 0);
        Check.due(Books.joinedOn(3600, 40, 10).earned(0, 3600), 0);
    }

    static void theLastMonthIsEarnedOnTheDay3600() {
        Check.due(Books.joinedOn(3570, 40, 10).earned(0, 3599), 0);
        Check.due(Books.joinedOn(3570, 40, 10).earned(0, 3600), 800);
        Check.due(Books.joinedOn(3571, 40, 10).earned(0, 3600), 0);
    }

    static void thePointsGoByTheHoursOnTheDayBefore() {
        Leavebank book = Books.with(40, 10);
        book.setHours(0, 28, 1);
        book.setHours(0, 29, 3);
        book.setHours(0, 30, 7);
        Check.due(book.earned(0, 30), 2 * 40 * 3);
        Check.due(earnedOn(book, 60), 2 * 40 * 7);
    }

    static void theLeastThatIsEarned() {
        Check.due(Books.with(20, 1).earned(0, 30), 40);
    }

    static void theMostThatIsEarned() {
        Check.due(earnedOn(Books.with(80, 10), 3240), 1720);
    }

    /** 500 points are earned on the day 60. */
    static void whatIsEarnedPaysBackFirst() {
        Leavebank less = indebted(499);
        Check.due(less.borrowed(0, 60), 0);
        Check.due(less.balance(0, 60), 1);
        Check.due(less.nextExpiry(0, 60), 450);
        Leavebank same = indebted(500);
        Check.due(same.borrowed(0, 60), 0);
        Check.due(same.balance(0, 60), 0);
        Check.due(same.nextExpiry(0, 60), Leavebank.NONE);
        Leavebank more = indebted(501);
        Check.due(more.borrowed(0, 60), 1);
        Check.due(more.balance(0, 60), -1);
        Check.due(more.nextExpiry(0, 60), Leavebank.NONE);
    }

    private static Leavebank indebted(int points) {
        Leavebank book = Books.withPoints(960 - points);
        book.request(0, 31, 32, false);
        Check.due(book.borrowed(0, 59), points);
        return book;
    }

    static void theDay90OfAYearIs90DaysBehindItsFirst() {
        Leavebank book = Books.with(40, 10);
        Check.due(book.nextExpiry(0, 30), 450);
        Check.due(book.expired(0, 449), 0);
        Check.due(book.expired(0, 450), 12 * 800);
    }

    static void aLotExpiresInTheYearBehindTheDayBefore() {
        Leavebank book = Books.with(40, 10);
        Check.due(book.expired(0, 809) - book.expired(0, 450), 0);
        Check.due(book.expired(0, 810) - book.expired(0, 809), 12 * 800);
        Check.due(Books.joinedOn(330, 40, 10).expired(0, 450), 800);
        Check.due(Books.joinedOn(360, 40, 10).expired(0, 809), 0);
        Check.due(Books.joinedOn(360, 40, 10).expired(0, 810), 12 * 800);
    }

    static void theLastLotsExpireBehindAllDays() {
        Check.due(Books.joinedOn(3240, 40, 10).expired(0, 3600), 0);
        Check.due(Books.joinedOn(3240, 40, 10).nextExpiry(0, 3600), 3690);
        Check.due(Books.joinedOn(3210, 40, 10).expired(0, 3329), 0);
        Check.due(Books.joinedOn(3210, 40, 10).expired(0, 3330), 800);
    }

    // ---- what happens on a day: 2, expiry

    static void whatTheLotsHadIsExpired() {
        Check.due(expiredAfterPaying(6000), 0);
        Check.due(expiredAfterPaying(5999), 1);
        Check.due(expiredAfterPaying(1), 5999);
    }

    /** 12 * 500 points expire on the day 450, less these. */
    private static int expiredAfterPaying(int points) {
        Leavebank book = Books.with(25, 10);
        Books.passTo(book, 360);
        book.payOut(0, points);
        return book.expired(0, 450);
    }

    static void whatExpiredIsGone() {
        Leavebank book = Books.with(25, 10);
        Check.due(book.balance(0, 449), 14 * 500);
        Check.due(book.balance(0, 450), 3 * 500);
        Check.due(book.nextExpiry(0, 450), 810);
    }

    static void whatIsBorrowedDoesNotExpire() {
        Leavebank book = Books.with(20, 1);
        book.request(0, 0, 4, false);
        Check.due(book.borrowed(0, 449), 2400 - 14 * 40);
        Check.due(book.borrowed(0, 450), 2400 - 15 * 40);
        Check.due(book.expired(0, 450), 0);
    }

    // ---- what happens on a day: 3, leave

    static void leaveOnTheFirstDayIsTaken() {
        Leavebank book = Books.joinedOn(45, 40, 10);
        book.request(0, 45, 45, false);
        Check.due(book.taken(0, 44), 0);
        Check.due(book.taken(0, 45), 480);
        Check.due(book.borrowed(0, 45), 480);
    }

    static void leaveOnTheLastDayIsTaken() {
        Leavebank book = Books.with(40, 10);
        book.request(0, 3600, 3600, false);
        Check.due(book.taken(0, 3599), 0);
        Check.due(book.taken(0, 3600), 480);
    }

    static void whatIsEarnedOnTheDayIsThereForLeave() {
        Leavebank book = Books.with(20, 10);
        book.request(0, 0, 4, false);
        book.request(0, 30, 30, true);
        Check.due(book.borrowed(0, 29), 2400);
        Check.due(book.unpaid(0, 30), 0);
        Check.due(book.borrowed(0, 30), 2400 - 400 + 240);
    }

    static void whatExpiresOnTheDayIsGoneAheadOfLeave() {
        Leavebank book = Books.with(25, 10);
        book.request(0, 450, 450, false);
        Check.due(book.expired(0, 450), 12 * 500);
        Check.due(book.balance(0, 450), 3 * 500 - 480);
        book.change(0, 449, 449);
        Check.due(book.expired(0, 450), 12 * 500 - 480);
        Check.due(book.balance(0, 450), 3 * 500);
    }

    static void leaveTakesFirstWhatExpiresFirst() {
        Check.due(leaveFromTwoYears(481).nextExpiry(0, 392), 450);
        Check.due(leaveFromTwoYears(481).expired(0, 450), 1);
        Check.due(leaveFromTwoYears(480).nextExpiry(0, 392), 810);
        Check.due(leaveFromTwoYears(480).balance(0, 450), 3 * 500);
        Check.due(leaveFromTwoYears(479).expired(0, 450), 0);
        Check.due(leaveFromTwoYears(479).balance(0, 450), 3 * 500 - 1);
    }

    /** On the day 392 leave is taken from so many points that expire on 450, and from 500 that expire later. */
    private static Leavebank leaveFromTwoYears(int points) {
        Leavebank book = Books.with(25, 10);
        Books.passTo(book, 390);
        book.payOut(0, 12 * 500 - points);
        book.request(0, 392, 392, false);
        return book;
    }

    static void leaveBorrowsWhatTheLotsHaveNot() {
        Check.due(afterLeave(481, false).balance(0, 31), 1);
        Check.due(afterLeave(481, false).borrowed(0, 31), 0);
        Check.due(afterLeave(480, false).balance(0, 31), 0);
        Check.due(afterLeave(480, false).borrowed(0, 31), 0);
        Check.due(afterLeave(479, false).nextExpiry(0, 31), Leavebank.NONE);
        Check.due(afterLeave(479, false).borrowed(0, 31), 1);
        Check.due(afterLeave(0, false).borrowed(0, 31), 480);
    }

    static void halfLeaveBorrowsWhatTheLotsHaveNot() {
        Check.due(afterLeave(241, true).balance(0, 31), 1);
        Check.due(afterLeave(241, true).borrowed(0, 31), 0);
        Check.due(afterLeave(240, true).borrowed(0, 31), 0);
        Check.due(afterLeave(239, true).nextExpiry(0, 31), Leavebank.NONE);
        Check.due(afterLeave(239, true).borrowed(0, 31), 1);
        Check.due(afterLeave(0, true).borrowed(0, 31), 240);
    }

    private static Leavebank afterLeave(int points, boolean isHalf) {
        Leavebank book = Books.withPoints(points);
        book.request(0, 31, 31, isHalf);
        return book;
    }

    /** Five days of leave from the lots, then one more on the day 42. */
    private static Leavebank afterSixDays(int points, boolean isLastHalf) {
        Leavebank book = Books.withPoints(points);
        book.request(0, 35, 39, false);
        book.request(0, 42, 42, isLastHalf);
        return book;
    }

    static void upTo2400AreBorrowed() {
        Check.due(afterSixDays(481, false).borrowed(0, 42), 2399);
        Check.due(afterSixDays(480, false).borrowed(0, 42), 2400);
        Check.due(afterSixDays(480, false).taken(0, 42), 6 * 480);
        Check.due(afterSixDays(480, false).unpaid(0, 42), 0);
        Check.due(afterSixDays(240, true).borrowed(0, 42), 2400);
        Check.due(afterSixDays(240, true).unpaid(0, 42), 0);
    }

    static void moreThan2400AreNotBorrowed() {
        Check.due(afterSixDays(479, false).unpaid(0, 42), 1);
        Check.due(afterSixDays(239, true).unpaid(0, 42), 1);
    }

    static void nothingIsTakenOnAnUnpaidDay() {
        Check.due(afterSixDays(479, false).borrowed(0, 42), 2401 - 480);
        Check.due(afterSixDays(479, false).taken(0, 42), 5 * 480);
        Check.due(afterSixDays(239, true).borrowed(0, 42), 2401 - 240);
        Check.due(afterSixDays(239, true).taken(0, 42), 5 * 480);
    }

    static void halfLeaveThatFitsIsTakenBehindAnUnpaidDay() {
        Leavebank book = afterSixDays(479, false);
        book.request(0, 43, 43, true);
        Check.due(book.unpaid(0, 43), 1);
        Check.due(book.borrowed(0, 43), 2401 - 240);
    }

    // ---- what happens on a day: 4, payouts

    static void whatIsEarnedOnTheDayIsThereForAPayout() {
        Leavebank book = Books.with(25, 10);
        Books.passTo(book, 30);
        Check.due(book.payOut(0, 500), 0);
        Check.due(book.paid(0, 30), 500);
    }

    static void whatExpiresOnTheDayIsGoneAheadOfAPayout() {
        Check.refused(() -> onDay(450), Check.STATE, book -> book.payOut(0, 3 * 500 + 1));
        Check.due(onDay(450).payOut(0, 3 * 500), 0);
        Check.due(onDay(449).payOut(0, 14 * 500), 0);
    }

    private static Leavebank onDay(int day) {
        Leavebank book = Books.with(25, 10);
        Books.passTo(book, day);
        return book;
    }

    static void leaveGoesAheadOfAPayout() {
        Leavebank book = Books.with(25, 10);
        Books.passTo(book, 30);
        book.payOut(0, 500);
        book.request(0, 30, 30, false);
        Check.due(book.taken(0, 30), 480);
        Check.due(book.borrowed(0, 30), 0);
        Check.due(book.paid(0, 30), 20);
    }

    static void aPayoutPaysFirstWhatExpiresFirst() {
        Check.due(paidFromTwoYears(5999).nextExpiry(0, 390), 450);
        Check.due(paidFromTwoYears(5999).expired(0, 450), 1);
        Check.due(paidFromTwoYears(6000).nextExpiry(0, 390), 810);
        Check.due(paidFromTwoYears(6001).expired(0, 450), 0);
        Check.due(paidFromTwoYears(6001).balance(0, 390), 499);
        Check.due(paidFromTwoYears(6500).nextExpiry(0, 390), Leavebank.NONE);
    }

    /** On the day 390 there are 6000 points that expire on 450, and 500 that expire later. */
    private static Leavebank paidFromTwoYears(int points) {
        Leavebank book = onDay(390);
        book.payOut(0, points);
        return book;
    }

    /** With 9 hours the lots have but 450. */
    static void aPayoutIsPaidAsFarAsTheLotsGo() {
        Check.due(paidWithHours(449, 9).balance(0, 30), 1);
        Check.due(paidWithHours(450, 9).paid(0, 30), 450);
        Check.due(paidWithHours(450, 9).balance(0, 30), 0);
        Check.due(paidWithHours(451, 9).paid(0, 30), 450);
        Check.due(paidWithHours(500, 1).paid(0, 30), 50);
        Check.due(paidWithHours(500, 10).paid(0, 30), 500);
    }

    static void nothingIsBorrowedForAPayout() {
        Check.due(paidWithHours(451, 9).borrowed(0, 30), 0);
        Check.due(paidWithHours(500, 1).balance(0, 30), 0);
        Leavebank indebted = paidWithHours(500, 10);
        indebted.request(0, 29, 30, false);
        Check.due(indebted.paid(0, 30), 0);
        Check.due(indebted.borrowed(0, 30), 2 * 480 - 500);
    }

    private static Leavebank paidWithHours(int points, int hours) {
        Leavebank book = onDay(30);
        book.payOut(0, points);
        book.setHours(0, 29, hours);
        return book;
    }

    static void aPayoutOnTheDay3600IsPaidAsFarAsTheLotsGo() {
        Leavebank book = Books.with(25, 10);
        Books.passTo(book, 3600);
        book.payOut(0, 12 * 2 * 31 * 10);
        Check.due(book.balance(0, 3600), 0);
        book.setHours(0, 0, 1);
        Check.due(book.paid(0, 3600), 12 * 2 * 31);
        Check.due(book.balance(0, 3600), 0);
    }

    static void severalPayoutsOfADayAreAllPaid() {
        Leavebank book = onDay(30);
        book.payOut(0, 100);
        book.payOut(0, 150);
        book.payOut(0, 250);
        Check.due(book.paid(0, 30), 500);
        book.setHours(0, 29, 4);
        Check.due(book.paid(0, 30), 200);
        book.setHours(0, 29, 5);
        Check.due(book.paid(0, 30), 250);
    }

    // ---- when a person is on leave

    static void aRequestHasItsFirstAndItsLastDay() {
        Leavebank book = Books.with(40, 10);
        book.request(0, 8, 10, false);
        Check.due(book.onLeave(0, 7), 0);
        Check.due(book.onLeave(0, 8), 2);
        Check.due(book.onLeave(0, 10), 2);
        Check.due(book.onLeave(0, 11), 0);
    }

    static void sicknessHasItsFirstAndItsLastDay() {
        Leavebank book = Books.with(40, 10);
        book.request(0, 7, 11, false);
        book.sick(0, 8, 10);
        Check.due(book.onLeave(0, 7), 2);
        Check.due(book.onLeave(0, 8), 0);
        Check.due(book.onLeave(0, 10), 0);
        Check.due(book.onLeave(0, 11), 2);
        Check.due(book.taken(0, 11), 2 * 480);
    }

    static void aCancelledRequestGivesNoLeave() {
        Leavebank book = Books.with(40, 10);
        book.request(0, 8, 8, true);
        book.request(0, 8, 9, false);
        book.cancel(1);
        Check.due(book.onLeave(0, 8), 1);
        Check.due(book.onLeave(0, 9), 0);
    }

    static void itIsHalfLeaveIfAllRequestsAreHalfOnes() {
        Leavebank book = Books.with(40, 10);
        book.request(0, 7, 9, true);
        book.request(0, 8, 10, true);
        Check.due(book.onLeave(0, 8), 1);
        Check.due(book.taken(0, 8), 2 * 240);
        book.request(0, 9, 9, false);
        Check.due(book.onLeave(0, 8), 1);
        Check.due(book.onLeave(0, 9), 2);
        Check.due(book.onLeave(0, 10), 1);
    }

    static void theOrderOfHalfAndWholeRequestsIsAllOne() {
        Leavebank book = Books.with(40, 10);
        book.request(0, 8, 8, false);
        book.request(0, 8, 8, true);
        Check.due(book.onLeave(0, 8), 2);
        Check.due(book.taken(0, 8), 480);
    }

    static void whatOthersEnteredGivesAndTakesNoLeave() {
        Leavebank book = Books.with(40, 10);
        book.addPerson(40, 10);
        book.request(0, 8, 8, false);
        book.sick(1, 8, 8);
        Check.due(book.onLeave(0, 8), 2);
        Check.due(book.onLeave(1, 8), 0);
        book.request(1, 8, 9, true);
        Check.due(book.onLeave(1, 8), 0);
        Check.due(book.onLeave(1, 9), 1);
        Check.due(book.onLeave(0, 9), 0);
    }

    // ---- balances

    static void aBalanceIsThatUpToAndWithTheDay() {
        Leavebank book = Books.with(40, 10);
        book.request(0, 31, 32, false);
        Check.due(book.balance(0, 29), 0);
        Check.due(book.balance(0, 30), 800);
        Check.due(book.balance(0, 31), 320);
        Check.due(book.balance(0, 32), -160);
    }

    static void allThatIsEnteredByNowCounts() {
        Leavebank book = onDay(100);
        Check.due(book.balance(0, 100), 3 * 500);
        book.request(0, 0, 0, true);
        Check.due(book.balance(0, 0), -240);
        Check.due(book.balance(0, 100), 3 * 500 - 240);
        book.sick(0, 0, 0);
        Check.due(book.balance(0, 0), 0);
        Check.due(book.balance(0, 100), 3 * 500);
        book.setHours(0, 0, 1);
        Check.due(book.balance(0, 100), 3 * 50);
    }

    static void whatComesDoesNotCountAheadOfItsDay() {
        Leavebank book = onDay(100);
        book.request(0, 101, 101, false);
        book.setHours(0, 101, 1);
        Check.due(book.balance(0, 100), 3 * 500);
        Check.due(book.balance(0, 101), 3 * 500 - 480);
        Check.due(book.balance(0, 120), 3 * 500 - 480 + 50);
    }

    static void whatIsPaidBackCountsAsEarnedWhenItIsEarned() {
        Leavebank book = Books.with(25, 10);
        book.request(0, 1, 1, false);
        Check.due(book.earned(0, 1), 0);
        Check.due(book.earned(0, 29), 0);
        Check.due(book.earned(0, 30), 500);
    }

    static void whatIsBorrowedCountsAsTakenWhenItIsTaken() {
        Leavebank book = Books.with(25, 10);
        book.request(0, 1, 1, false);
        Check.due(book.taken(0, 0), 0);
        Check.due(book.taken(0, 1), 480);
        Check.due(book.taken(0, 30), 480);
    }

    static void whatWasAskedBeforeDoesNotMatter() {
        Leavebank book = paidWithHours(500, 9);
        book.addPerson(80, 10);
        Check.due(book.balance(1, 3600), 12 * 1720);
        Check.due(book.paid(0, 30), 450);
        Check.due(book.balance(0, 30), 0);
        Check.due(book.balance(1, 59), 0);
        Check.due(book.nextExpiry(1, 59), Leavebank.NONE);
        Check.due(book.nextExpiry(0, 30), Leavebank.NONE);
    }

    static void noDayIsMinus1() {
        Check.due(Leavebank.NONE, -1);
    }
}
