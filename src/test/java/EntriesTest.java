import java.util.function.Consumer;

/** A test for each sentence of the promises 1 to 9, the entries, that names a boundary. */
public final class EntriesTest {
    private static final int LEAST = Integer.MIN_VALUE;
    private static final int MOST = Integer.MAX_VALUE;
    /** A used book has the people 0 and 1, and the requests 0 to 3. */
    private static final int[] NO_PEOPLE = {-1, 2, 7, 8, LEAST, MOST};
    private static final int[] NO_REQUESTS = {-1, 4, 39, 40, LEAST, MOST};

    public static void main(String[] args) {
        Check.runTestsOf(EntriesTest.class);
    }

    private interface CallWith {
        void on(Leavebank book, int number);
    }

    /** That the call is refused in a used book for each of these numbers. */
    private static void refusedForEach(int[] numbers, Class<?> want, CallWith call) {
        for (int number : numbers) {
            Check.refused(Books::used, want, book -> call.on(book, number));
        }
    }

    private static void refusedInNewBook(Class<?> want, Consumer<Leavebank> call) {
        Check.refused(Leavebank::new, want, call);
    }

    // ---- promise 1: a new object

    static void aNewBookHasNoPeople() {
        Check.due(new Leavebank().people(), 0);
        refusedInNewBook(Check.INDEX, book -> book.setHours(0, 0, 5));
        refusedInNewBook(Check.INDEX, book -> book.request(0, 0, 0, false));
        refusedInNewBook(Check.INDEX, book -> book.sick(0, 0, 0));
        refusedInNewBook(Check.INDEX, book -> book.payOut(0, 1));
        refusedInNewBook(Check.INDEX, book -> book.hours(0, 0));
        refusedInNewBook(Check.INDEX, book -> book.onLeave(0, 0));
        refusedInNewBook(Check.INDEX, book -> book.balance(0, 0));
        refusedInNewBook(Check.INDEX, book -> book.nextExpiry(0, 0));
    }

    static void aNewBookHasNoRequests() {
        refusedInNewBook(Check.INDEX, book -> book.change(0, 0, 0));
        refusedInNewBook(Check.INDEX, book -> book.cancel(0));
    }

    static void aNewBookIsOnTheDay0() {
        Leavebank book = new Leavebank();
        Check.due(book.today(), 0);
        Check.due(book.pass(1), 1);
    }

    static void aNewBookHasAllNumbersLeft() {
        Leavebank book = new Leavebank();
        Check.due(book.addPerson(40, 10), 0);
        Check.due(book.request(0, 1, 1, false), 0);
        Check.due(book.sick(0, 1, 1), 1);
        book.pass(30);
        Check.due(book.payOut(0, 1), 0);
    }

    static void aNewBookKnowsNothingOfAnother() {
        Books.fullOfPeople();
        Books.fullOfRequests();
        Check.same(Leavebank::new, Leavebank::new);
        Check.due(new Leavebank().people(), 0);
        Check.due(new Leavebank().today(), 0);
    }

    // ---- promise 2: addPerson

    static void rightIs20AtLeast() {
        Check.due(new Leavebank().addPerson(20, 5), 0);
        Check.due(Books.with(20, 5).earned(0, 30), 2 * 20 * 5);
        refusedForEach(new int[] {19, 0, -20, LEAST}, Check.ARGUMENT, (book, right) -> book.addPerson(right, 5));
    }

    static void rightIs80AtMost() {
        Check.due(new Leavebank().addPerson(80, 5), 0);
        Check.due(Books.with(80, 5).earned(0, 30), 2 * 80 * 5);
        refusedForEach(new int[] {81, 90, MOST}, Check.ARGUMENT, (book, right) -> book.addPerson(right, 5));
    }

    static void hoursOfANewPersonAre1AtLeast() {
        Check.due(new Leavebank().addPerson(40, 1), 0);
        Check.due(Books.with(40, 1).hours(0, 0), 1);
        refusedForEach(new int[] {0, -1, LEAST}, Check.ARGUMENT, (book, hours) -> book.addPerson(40, hours));
    }

    static void hoursOfANewPersonAre10AtMost() {
        Check.due(new Leavebank().addPerson(40, 10), 0);
        Check.due(Books.with(40, 10).hours(0, 0), 10);
        refusedForEach(new int[] {11, 100, MOST}, Check.ARGUMENT, (book, hours) -> book.addPerson(40, hours));
    }

    static void peopleAreNumberedFrom0To7() {
        Leavebank book = new Leavebank();
        for (int number = 0; number < 8; number++) {
            Check.due(book.addPerson(40, 10), number);
        }
    }

    static void a9thPersonIsRefused() {
        Check.due(Books.fullOfPeople().people(), 8);
        Check.refused(Books::fullOfPeople, Check.STATE, book -> book.addPerson(40, 10));
        Check.refused(Books::fullOfPeople, Check.STATE, book -> book.addPerson(20, 1));
        Check.refused(Books::fullOfPeople, Check.STATE, book -> book.addPerson(80, 10));
    }

    static void addPersonThrowsForItsArgumentsFirst() {
        for (int wrong : new int[] {19, 81, LEAST, MOST}) {
            Check.refused(Books::fullOfPeople, Check.ARGUMENT, book -> book.addPerson(wrong, 10));
        }
        for (int wrong : new int[] {0, 11, LEAST, MOST}) {
            Check.refused(Books::fullOfPeople, Check.ARGUMENT, book -> book.addPerson(40, wrong));
        }
    }

    static void theFirstDayOfAPersonIsToday() {
        Leavebank book = Books.joinedOn(45, 40, 10);
        Check.due(book.hours(0, 45), 10);
        Check.refused(() -> Books.joinedOn(45, 40, 10), Check.ARGUMENT, x -> x.hours(0, 44));
        Check.due(book.earned(0, 60), 0);
        Check.due(book.earned(0, 90), 800);
    }

    static void aPersonCanBeAddedOnTheDay0() {
        Check.due(Books.with(40, 10).hours(0, 0), 10);
        Check.due(Books.with(40, 10).earned(0, 30), 800);
    }

    static void aPersonCanBeAddedOnTheDay3600() {
        Leavebank book = Books.joinedOn(3600, 40, 7);
        Check.due(book.hours(0, 3600), 7);
        Check.due(book.balance(0, 3600), 0);
        Check.due(book.request(0, 3600, 3600, false), 0);
        Check.due(book.balance(0, 3600), -480);
    }

    // ---- promise 3: setHours

    static void setHoursNeedsAPerson() {
        Check.due(Books.used().setHours(0, 100, 6), 5);
        Check.due(Books.used().setHours(1, 100, 6), 8);
        refusedForEach(NO_PEOPLE, Check.INDEX, (book, person) -> book.setHours(person, 100, 6));
    }

    static void hoursChangeOnTheFirstDayOrLater() {
        Leavebank book = Books.used();
        Check.due(book.setHours(1, 45, 3), 8);
        Check.due(book.hours(1, 45), 3);
        refusedForEach(new int[] {44, 0, -1, LEAST}, Check.ARGUMENT, (x, day) -> x.setHours(1, day, 3));
        Check.due(book.setHours(0, 0, 3), 10);
        refusedForEach(new int[] {-1, LEAST}, Check.ARGUMENT, (x, day) -> x.setHours(0, day, 3));
    }

    static void hoursChangeOnTheDay3600AtTheLatest() {
        Leavebank book = Books.used();
        Check.due(book.setHours(1, 3600, 3), 10);
        Check.due(book.hours(1, 3599), 10);
        Check.due(book.hours(1, 3600), 3);
        refusedForEach(new int[] {3601, MOST}, Check.ARGUMENT, (x, day) -> x.setHours(1, day, 3));
    }

    static void changedHoursAre1AtLeast() {
        Leavebank book = Books.used();
        Check.due(book.setHours(1, 100, 1), 8);
        Check.due(book.hours(1, 100), 1);
        refusedForEach(new int[] {0, -1, LEAST}, Check.ARGUMENT, (x, hours) -> x.setHours(1, 100, hours));
    }

    static void changedHoursAre10AtMost() {
        Leavebank book = Books.used();
        Check.due(book.setHours(1, 100, 10), 8);
        Check.due(book.hours(1, 100), 10);
        refusedForEach(new int[] {11, 100, MOST}, Check.ARGUMENT, (x, hours) -> x.setHours(1, 100, hours));
    }

    static void hoursHoldFromTheDayUntilTheNextChange() {
        Leavebank book = Books.with(40, 10);
        book.setHours(0, 40, 6);
        book.setHours(0, 20, 2);
        Check.due(book.hours(0, 19), 10);
        Check.due(book.hours(0, 20), 2);
        Check.due(book.hours(0, 39), 2);
        Check.due(book.hours(0, 40), 6);
        Check.due(book.hours(0, 3600), 6);
    }

    static void aChangeForTheSameDayIsReplaced() {
        Leavebank book = Books.with(40, 10);
        for (int hours = 1; hours <= 10; hours++) {
            Check.due(book.setHours(0, 20, hours), hours == 1 ? 10 : hours - 1);
        }
        Check.due(book.setHours(0, 20, 4), 10);
        Check.due(book.hours(0, 19), 10);
        Check.due(book.hours(0, 20), 4);
        for (int day = 21; day < 30; day++) {
            Check.due(book.setHours(0, day, 5), day == 21 ? 4 : 5);
        }
    }

    static void setHoursAnswersTheHoursOnThatDayBefore() {
        Leavebank book = Books.with(40, 10);
        Check.due(book.setHours(0, 50, 1), 10);
        Check.due(book.setHours(0, 49, 2), 10);
        Check.due(book.setHours(0, 51, 3), 1);
        Check.due(book.setHours(0, 50, 4), 1);
    }

    static void the10thChangeIsEntered() {
        Leavebank book = Books.used();
        for (int day = 110; day < 200; day += 10) {
            Check.due(book.setHours(1, day, 4), day == 110 ? 8 : 4);
        }
        Check.due(book.hours(1, 199), 4);
        Check.due(book.hours(1, 200), 10);
    }

    static void an11thChangeIsRefused() {
        for (int day : new int[] {45, 109, 111, 199, 201, 3600}) {
            Check.refused(Books::fullOfChanges, Check.STATE, book -> book.setHours(1, day, 5));
        }
    }

    static void aChangeForTheSameDayIsReplacedAmong10() {
        for (int day = 110; day < 200; day += 10) {
            Leavebank book = Books.fullOfChanges();
            Check.due(book.setHours(1, day, 6), 4);
            Check.due(book.hours(1, day), 6);
        }
        Check.due(Books.fullOfChanges().setHours(1, 200, 6), 10);
    }

    static void eachPersonHas10Changes() {
        Leavebank book = Books.fullOfChanges();
        for (int day = 51; day < 60; day++) {
            Check.due(book.setHours(0, day, 5), 5);
        }
        Check.refused(() -> {
            Leavebank full = Books.fullOfChanges();
            for (int day = 51; day < 60; day++) {
                full.setHours(0, day, 5);
            }
            return full;
        }, Check.STATE, x -> x.setHours(0, 60, 5));
    }

    static void setHoursThrowsForThePersonFirst() {
        Check.refused(Books::fullOfChanges, Check.INDEX, book -> book.setHours(2, -1, 5));
        Check.refused(Books::fullOfChanges, Check.INDEX, book -> book.setHours(2, 3601, 5));
        Check.refused(Books::fullOfChanges, Check.INDEX, book -> book.setHours(-1, 100, 0));
        Check.refused(Books::fullOfChanges, Check.INDEX, book -> book.setHours(8, 100, 11));
    }

    static void setHoursThrowsForItsArgumentsAheadOfItsState() {
        Check.refused(Books::fullOfChanges, Check.ARGUMENT, book -> book.setHours(1, 44, 5));
        Check.refused(Books::fullOfChanges, Check.ARGUMENT, book -> book.setHours(1, 3601, 5));
        Check.refused(Books::fullOfChanges, Check.ARGUMENT, book -> book.setHours(1, 100, 0));
        Check.refused(Books::fullOfChanges, Check.ARGUMENT, book -> book.setHours(1, 100, 11));
    }

    // ---- promise 4: request

    static void requestNeedsAPerson() {
        Check.due(Books.used().request(0, 100, 101, false), 4);
        Check.due(Books.used().request(1, 100, 101, false), 4);
        refusedForEach(NO_PEOPLE, Check.INDEX, (book, person) -> book.request(person, 100, 101, false));
    }

    static void requestBeginsOnTheFirstDayOfThePersonOrLater() {
        Leavebank book = Books.used();
        Check.due(book.request(1, 45, 45, false), 4);
        Check.due(book.onLeave(1, 45), 2);
        refusedForEach(new int[] {44, 0, -1, LEAST}, Check.ARGUMENT, (x, first) -> x.request(1, first, 50, false));
        Check.due(book.request(0, 0, 0, false), 5);
        refusedForEach(new int[] {-1, LEAST}, Check.ARGUMENT, (x, first) -> x.request(0, first, 50, false));
    }

    static void requestEndsOnItsFirstDayOrLater() {
        Leavebank book = Books.used();
        Check.due(book.request(1, 100, 100, false), 4);
        Check.due(book.onLeave(1, 99) + book.onLeave(1, 101), 0);
        Check.due(book.onLeave(1, 100), 2);
        refusedForEach(new int[] {99, 45, 0, -1, LEAST}, Check.ARGUMENT, (x, last) -> x.request(1, 100, last, true));
    }

    static void requestEndsOnTheDay3600AtTheLatest() {
        Leavebank book = Books.used();
        Check.due(book.request(1, 100, 3600, false), 4);
        Check.due(book.onLeave(1, 3600), 2);
        refusedForEach(new int[] {3601, MOST}, Check.ARGUMENT, (x, last) -> x.request(1, 100, last, false));
    }

    static void requestBeginsOnTheDay3600AtTheLatest() {
        Check.due(Books.used().request(1, 3600, 3600, false), 4);
        refusedForEach(new int[] {3601, MOST}, Check.ARGUMENT, (x, first) -> x.request(1, first, first, false));
    }

    static void requestHoldsAtOnce() {
        Leavebank book = Books.joinedOn(30, 40, 10);
        book.request(0, 30, 30, false);
        Check.due(book.onLeave(0, 30), 2);
        Check.due(book.taken(0, 30), 480);
    }

    static void isHalfHoldsOnEachDayOfTheRequest() {
        Leavebank book = Books.with(40, 10);
        book.request(0, 28, 32, true);
        for (int day = 28; day <= 32; day++) {
            Check.due(book.onLeave(0, day), 1);
            Check.due(book.taken(0, day), (day - 27) * 240);
        }
    }

    static void requestsOfAllPeopleAreNumberedFrom0To39() {
        Leavebank book = Books.with(40, 10);
        book.addPerson(40, 10);
        for (int number = 0; number < 40; number++) {
            Check.due(book.request(number % 2, 10, 11, false), number);
        }
    }

    static void a41stRequestIsRefused() {
        Check.refused(Books::fullOfRequests, Check.STATE, book -> book.request(0, 100, 101, false));
        Check.refused(Books::fullOfRequests, Check.STATE, book -> book.request(1, 45, 3600, true));
    }

    static void cancelledRequestsAreCountedAmong40() {
        Check.refused(() -> {
            Leavebank book = Books.fullOfRequests();
            book.cancel(39);
            book.cancel(0);
            return book;
        }, Check.STATE, book -> book.request(0, 100, 101, false));
    }

    static void onePersonCanHaveAll40Requests() {
        Leavebank book = Books.with(40, 10);
        for (int number = 0; number < 40; number++) {
            Check.due(book.request(0, 1001 + number, 1001 + number, false), number);
        }
        Check.due(book.onLeave(0, 1001), 2);
        Check.due(book.onLeave(0, 1040), 2);
        Check.due(book.onLeave(0, 1043), 0);
    }

    static void requestThrowsForThePersonFirst() {
        refusedForEach(NO_PEOPLE, Check.INDEX, (book, person) -> book.request(person, 101, 100, false));
        Check.refused(Books::fullOfRequests, Check.INDEX, book -> book.request(2, 100, 101, false));
        Check.refused(Books::fullOfRequests, Check.INDEX, book -> book.request(-1, -1, 3601, false));
    }

    static void requestThrowsForItsArgumentsAheadOfItsState() {
        Check.refused(Books::fullOfRequests, Check.ARGUMENT, book -> book.request(1, 44, 101, false));
        Check.refused(Books::fullOfRequests, Check.ARGUMENT, book -> book.request(1, 100, 99, false));
        Check.refused(Books::fullOfRequests, Check.ARGUMENT, book -> book.request(1, 100, 3601, false));
    }

    // ---- promise 5: change

    static void changeNeedsARequest() {
        Check.due(Books.used().change(0, 100, 101), 7);
        Check.due(Books.used().change(3, 100, 101), 11);
        refusedForEach(NO_REQUESTS, Check.INDEX, (book, request) -> book.change(request, 100, 101));
        Check.due(Books.fullOfRequests().change(39, 100, 101), 1);
        Check.refused(Books::fullOfRequests, Check.INDEX, book -> book.change(40, 100, 101));
    }

    static void changedRequestBeginsOnTheFirstDayOfItsPersonOrLater() {
        Leavebank book = Books.used();
        Check.due(book.change(1, 45, 50), 11);
        Check.due(book.onLeave(1, 45), 1);
        refusedForEach(new int[] {44, 0, -1, LEAST}, Check.ARGUMENT, (x, first) -> x.change(1, first, 50));
        Check.due(book.change(0, 0, 50), 7);
        Check.due(book.onLeave(0, 0), 2);
        refusedForEach(new int[] {-1, LEAST}, Check.ARGUMENT, (x, first) -> x.change(0, first, 50));
    }

    static void changedRequestEndsOnItsFirstDayOrLater() {
        Leavebank book = Books.used();
        Check.due(book.change(3, 100, 100), 11);
        Check.due(book.onLeave(1, 99) + book.onLeave(1, 101) + book.onLeave(1, 400), 0);
        Check.due(book.onLeave(1, 100), 2);
        refusedForEach(new int[] {99, 45, 0, -1, LEAST}, Check.ARGUMENT, (x, last) -> x.change(3, 100, last));
    }

    static void changedRequestEndsOnTheDay3600AtTheLatest() {
        Leavebank book = Books.used();
        Check.due(book.change(3, 3600, 3600), 11);
        Check.due(book.onLeave(1, 3600), 2);
        refusedForEach(new int[] {3601, MOST}, Check.ARGUMENT, (x, last) -> x.change(3, 3600, last));
        refusedForEach(new int[] {3601, MOST}, Check.ARGUMENT, (x, first) -> x.change(3, first, first));
    }

    static void changeAnswersHowManyDaysItHadWorkingDaysOrNot() {
        Leavebank book = Books.with(40, 10);
        book.request(0, 5, 6, false);
        Check.due(book.change(0, 6, 6), 2);
        Check.due(book.change(0, 0, 3600), 1);
        Check.due(book.change(0, 3600, 3600), 3601);
        Check.due(book.change(0, 4, 7), 1);
        Check.due(book.change(0, 4, 7), 4);
    }

    static void pastDaysOfARequestAreChangedToo() {
        Leavebank book = Books.with(40, 10);
        book.request(0, 0, 0, false);
        Books.passTo(book, 100);
        Check.due(book.change(0, 1, 2), 1);
        Check.due(book.taken(0, 0), 0);
        Check.due(book.taken(0, 2), 960);
        Check.due(book.balance(0, 100), 3 * 800 - 960);
    }

    static void aChangedRequestStaysHalfOrWhole() {
        Leavebank book = Books.with(40, 10);
        book.request(0, 0, 0, true);
        book.request(0, 1, 1, false);
        book.change(0, 7, 7);
        book.change(1, 8, 8);
        Check.due(book.onLeave(0, 7), 1);
        Check.due(book.onLeave(0, 8), 2);
    }

    static void daysThatAnotherRequestHasStayLeave() {
        Leavebank book = Books.with(40, 10);
        book.request(0, 7, 9, false);
        book.request(0, 9, 11, true);
        book.change(0, 7, 8);
        Check.due(book.onLeave(0, 8), 2);
        Check.due(book.onLeave(0, 9), 1);
        book.change(0, 14, 14);
        Check.due(book.onLeave(0, 8), 0);
        Check.due(book.onLeave(0, 11), 1);
    }

    static void aCancelledRequestIsNotChanged() {
        Check.refused(Books::used, Check.STATE, book -> book.change(2, 77, 90));
        Check.refused(Books::used, Check.STATE, book -> book.change(2, 0, 3600));
    }

    static void changeThrowsForTheRequestFirst() {
        refusedForEach(NO_REQUESTS, Check.INDEX, (book, request) -> book.change(request, 101, 100));
        Check.refused(Books::used, Check.INDEX, book -> book.change(4, -1, 3601));
    }

    static void changeThrowsForItsArgumentsAheadOfItsState() {
        Check.refused(Books::used, Check.ARGUMENT, book -> book.change(2, -1, 90));
        Check.refused(Books::used, Check.ARGUMENT, book -> book.change(2, 77, 76));
        Check.refused(Books::used, Check.ARGUMENT, book -> book.change(2, 77, 3601));
    }

    // ---- promise 6: cancel

    static void cancelNeedsARequest() {
        refusedForEach(NO_REQUESTS, Check.INDEX, (book, request) -> book.cancel(request));
        Check.refused(Books::fullOfRequests, Check.INDEX, book -> book.cancel(40));
        Leavebank book = Books.fullOfRequests();
        book.cancel(0);
        book.cancel(39);
        Check.due(book.onLeave(0, 63), 0);
        Check.due(book.onLeave(1, 539), 0);
    }

    static void aRequestIsCancelledOnce() {
        Check.refused(Books::used, Check.STATE, book -> book.cancel(2));
        Check.refused(() -> {
            Leavebank book = Books.used();
            book.cancel(0);
            return book;
        }, Check.STATE, book -> book.cancel(0));
    }

    static void pastDaysAreCancelledToo() {
        Leavebank book = Books.with(40, 10);
        book.request(0, 0, 31, false);
        Books.passTo(book, 30);
        book.cancel(0);
        Check.due(book.taken(0, 30), 0);
        Check.due(book.unpaid(0, 31), 0);
        Check.due(book.balance(0, 30), 800);
    }

    static void allDaysOfARequestAreCancelled() {
        Leavebank book = Books.with(40, 10);
        book.request(0, 0, 3600, false);
        book.cancel(0);
        Check.due(book.onLeave(0, 0), 0);
        Check.due(book.onLeave(0, 3600), 0);
        Check.due(book.taken(0, 3600), 0);
    }

    // ---- promise 7: sick

    static void sickNeedsAPerson() {
        Check.due(Books.used().sick(0, 63, 66), 3);
        Check.due(Books.used().sick(1, 63, 66), 3);
        refusedForEach(NO_PEOPLE, Check.INDEX, (book, person) -> book.sick(person, 63, 66));
    }

    static void sicknessBeginsOnTheFirstDayOfThePersonOrLater() {
        Leavebank book = Books.used();
        book.change(1, 45, 46);
        Check.due(book.sick(1, 45, 45), 3);
        Check.due(book.onLeave(1, 45), 0);
        Check.due(book.onLeave(1, 46), 1);
        refusedForEach(new int[] {44, 0, -1, LEAST}, Check.ARGUMENT, (x, first) -> x.sick(1, first, 50));
        Check.due(book.sick(0, 0, 0), 4);
        refusedForEach(new int[] {-1, LEAST}, Check.ARGUMENT, (x, first) -> x.sick(0, first, 66));
    }

    static void sicknessEndsOnItsFirstDayOrLater() {
        Leavebank book = Books.used();
        Check.due(book.sick(0, 66, 66), 3);
        Check.due(book.onLeave(0, 66), 0);
        Check.due(book.onLeave(0, 67), 2);
        refusedForEach(new int[] {65, 63, 0, -1, LEAST}, Check.ARGUMENT, (x, last) -> x.sick(0, 66, last));
    }

    static void sicknessEndsOnTheDay3600AtTheLatest() {
        Leavebank book = Books.used();
        book.request(0, 3599, 3600, false);
        Check.due(book.sick(0, 3600, 3600), 3);
        Check.due(book.onLeave(0, 3599), 2);
        Check.due(book.onLeave(0, 3600), 0);
        refusedForEach(new int[] {3601, MOST}, Check.ARGUMENT, (x, last) -> x.sick(0, 63, last));
        refusedForEach(new int[] {3601, MOST}, Check.ARGUMENT, (x, first) -> x.sick(0, first, first));
    }

    static void aSpellMayHaveAllDays() {
        Leavebank book = Books.used();
        Check.due(book.sick(0, 0, 3600), 3);
        Check.due(book.taken(0, 3600), 0);
    }

    static void sickAnswersTheSpellsOfAllPeople() {
        Leavebank book = Books.with(40, 10);
        book.addPerson(40, 10);
        for (int spells = 1; spells <= 30; spells++) {
            Check.due(book.sick(spells % 2, 100, 110), spells);
        }
    }

    static void a31stSpellIsRefused() {
        Check.refused(Books::fullOfSpells, Check.STATE, book -> book.sick(0, 63, 66));
        Check.refused(Books::fullOfSpells, Check.STATE, book -> book.sick(1, 45, 3600));
    }

    static void onePersonCanHaveAll30Spells() {
        Leavebank book = Books.with(40, 10);
        book.request(0, 1001, 1100, false);
        for (int spells = 1; spells <= 30; spells++) {
            Check.due(book.sick(0, 1001 + spells, 1001 + spells), spells);
        }
        Check.due(book.onLeave(0, 1001), 2);
        Check.due(book.onLeave(0, 1002), 0);
        Check.due(book.onLeave(0, 1031), 0);
        Check.due(book.onLeave(0, 1032), 2);
    }

    static void sicknessEnteredAheadOfARequestCounts() {
        Leavebank book = Books.with(40, 10);
        book.sick(0, 8, 8);
        book.request(0, 7, 9, false);
        Check.due(book.onLeave(0, 7), 2);
        Check.due(book.onLeave(0, 8), 0);
        Check.due(book.onLeave(0, 9), 2);
    }

    static void sickThrowsForThePersonFirst() {
        refusedForEach(NO_PEOPLE, Check.INDEX, (book, person) -> book.sick(person, 66, 63));
        Check.refused(Books::fullOfSpells, Check.INDEX, book -> book.sick(2, 63, 66));
        Check.refused(Books::fullOfSpells, Check.INDEX, book -> book.sick(-1, -1, 3601));
    }

    static void sickThrowsForItsArgumentsAheadOfItsState() {
        Check.refused(Books::fullOfSpells, Check.ARGUMENT, book -> book.sick(1, 44, 66));
        Check.refused(Books::fullOfSpells, Check.ARGUMENT, book -> book.sick(0, 63, 62));
        Check.refused(Books::fullOfSpells, Check.ARGUMENT, book -> book.sick(0, 63, 3601));
    }

    // ---- promise 8: payOut

    static void payOutNeedsAPerson() {
        Check.due(Books.used().payOut(0, 1), 1);
        refusedForEach(NO_PEOPLE, Check.INDEX, (book, person) -> book.payOut(person, 1));
    }

    static void pointsAre1AtLeast() {
        Leavebank book = Books.used();
        Check.due(book.payOut(0, 1), 1);
        Check.due(book.paid(0, 100), 51);
        refusedForEach(new int[] {0, -1, -50, LEAST}, Check.ARGUMENT, (x, points) -> x.payOut(0, points));
    }

    static void pointsAre20000AtMost() {
        Leavebank book = rich();
        Check.due(book.payOut(0, 20000), 0);
        Check.due(book.paid(0, 809), 20000);
        Check.refused(EntriesTest::rich, Check.ARGUMENT, x -> x.payOut(0, 20001));
        Check.refused(EntriesTest::rich, Check.ARGUMENT, x -> x.payOut(0, MOST));
    }

    /** There are 14 lots of 1600 points, of which 12 expire on the next day. */
    private static Leavebank rich() {
        Leavebank book = Books.with(80, 10);
        Books.passTo(book, 809);
        Check.due(book.balance(0, 809), 14 * 1600);
        return book;
    }

    static void theLotsMustHaveThePoints() {
        Check.due(Books.withPoints(300).payOut(0, 300), 1);
        Check.due(Books.withPoints(300).payOut(0, 299), 1);
        Check.refused(() -> Books.withPoints(300), Check.STATE, book -> book.payOut(0, 301));
        Check.refused(() -> Books.withPoints(300), Check.STATE, book -> book.payOut(0, 20000));
        Check.refused(() -> Books.withPoints(0), Check.STATE, book -> book.payOut(0, 1));
    }

    static void thereIsNoPayoutAheadOfTheFirstLot() {
        Check.refused(() -> Books.with(80, 10), Check.STATE, book -> book.payOut(0, 1));
        Check.refused(() -> {
            Leavebank book = Books.with(80, 10);
            book.pass(29);
            return book;
        }, Check.STATE, book -> book.payOut(0, 1));
    }

    static void thereIsNoPayoutForADebtor() {
        Check.refused(() -> {
            Leavebank book = Books.withPoints(500);
            book.request(0, 29, 30, false);
            return book;
        }, Check.STATE, book -> book.payOut(0, 1));
        Leavebank even = Books.withPoints(500);
        even.request(0, 29, 29, false);
        Check.due(even.payOut(0, 20), 0);
        Check.due(even.balance(0, 30), 0);
    }

    static void theLotsBehindTodayCount() {
        Leavebank book = Books.withPoints(500);
        book.request(0, 31, 31, false);
        Check.due(book.payOut(0, 500), 0);
        Leavebank withLeaveToday = Books.withPoints(500);
        withLeaveToday.request(0, 30, 30, false);
        Check.due(withLeaveToday.payOut(0, 20), 0);
        Check.refused(() -> {
            Leavebank x = Books.withPoints(500);
            x.request(0, 30, 30, false);
            return x;
        }, Check.STATE, x -> x.payOut(0, 21));
    }

    static void aPayoutIsForToday() {
        Leavebank book = Books.withPoints(500);
        book.pass(5);
        book.payOut(0, 100);
        Check.due(book.paid(0, 34), 0);
        Check.due(book.paid(0, 35), 100);
    }

    static void payoutsOfAllPeopleAreNumberedFrom0To19() {
        Leavebank book = Books.with(40, 10);
        book.addPerson(40, 10);
        book.pass(30);
        for (int number = 0; number < 20; number++) {
            Check.due(book.payOut(number % 2, 1), number);
        }
        Check.due(book.paid(0, 30), 10);
        Check.due(book.paid(1, 30), 10);
    }

    static void a21stPayoutIsRefused() {
        Check.refused(Books::fullOfPayouts, Check.STATE, book -> book.payOut(0, 1));
        Check.refused(Books::fullOfPayouts, Check.STATE, book -> book.payOut(1, 1));
    }

    static void onePersonCanHaveAll20Payouts() {
        Leavebank book = Books.withPoints(500);
        for (int number = 0; number < 20; number++) {
            Check.due(book.payOut(0, 10), number);
        }
        Check.due(book.paid(0, 30), 200);
    }

    static void payOutThrowsForThePersonFirst() {
        refusedForEach(NO_PEOPLE, Check.INDEX, (book, person) -> book.payOut(person, 0));
        Check.refused(Books::fullOfPayouts, Check.INDEX, book -> book.payOut(2, 1));
        Check.refused(Books::fullOfPayouts, Check.INDEX, book -> book.payOut(-1, 20001));
    }

    static void payOutThrowsForItsArgumentsAheadOfItsState() {
        Check.refused(Books::fullOfPayouts, Check.ARGUMENT, book -> book.payOut(0, 0));
        Check.refused(Books::fullOfPayouts, Check.ARGUMENT, book -> book.payOut(0, 20001));
        Check.refused(() -> Books.withPoints(0), Check.ARGUMENT, book -> book.payOut(0, 0));
        Check.refused(() -> Books.withPoints(0), Check.ARGUMENT, book -> book.payOut(0, 20001));
    }

    // ---- promise 9: pass

    static void passesAtLeastOneDay() {
        Check.due(new Leavebank().pass(1), 1);
        refusedForEach(new int[] {0, -1, -100, LEAST}, Check.ARGUMENT, (book, days) -> book.pass(days));
    }

    static void passesAtMost400Days() {
        Check.due(new Leavebank().pass(400), 400);
        refusedForEach(new int[] {401, 3600, MOST}, Check.ARGUMENT, (book, days) -> book.pass(days));
    }

    static void todayIs3600AtTheLatest() {
        Check.due(atDay(3200).pass(400), 3600);
        Check.due(atDay(3599).pass(1), 3600);
        Check.refused(() -> atDay(3201), Check.STATE, book -> book.pass(400));
        Check.refused(() -> atDay(3599), Check.STATE, book -> book.pass(2));
        Check.refused(() -> atDay(3600), Check.STATE, book -> book.pass(1));
        Check.refused(() -> atDay(3600), Check.STATE, book -> book.pass(400));
    }

    static void passThrowsForItsArgumentFirst() {
        for (int days : new int[] {0, -1, 401, LEAST, MOST}) {
            Check.refused(() -> atDay(3600), Check.ARGUMENT, book -> book.pass(days));
        }
    }

    private static Leavebank atDay(int day) {
        Leavebank book = Books.used();
        Books.passTo(book, day);
        return book;
    }

    static void passAnswersTodayThen() {
        Leavebank book = new Leavebank();
        Check.due(book.pass(399), 399);
        Check.due(book.pass(1), 400);
        Check.due(book.today(), 400);
    }
}
