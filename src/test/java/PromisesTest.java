import java.util.function.IntSupplier;

/** For each promise of the document: ordinary inputs, the edges that it names, and wrong inputs. */
public final class PromisesTest {
    private static final Class<?> INDEX = IndexOutOfBoundsException.class;
    private static final Class<?> ARGUMENT = IllegalArgumentException.class;
    private static final Class<?> STATE = IllegalStateException.class;
    private static final int[] NO_DAYS = {-1, 3601, Integer.MIN_VALUE, Integer.MAX_VALUE};

    private static int wrong = 0;
    private static String promise = "";

    private interface BalanceCall {
        int on(int person, int day);
    }

    private static void due(String what, int got, int want) {
        if (got != want) {
            wrong++;
            System.out.println(promise + ": " + what + " answered " + got + ", due is " + want);
        }
    }

    private static void thrown(String what, Class<?> want, IntSupplier call) {
        String got;
        try {
            got = "answer " + call.getAsInt();
        } catch (RuntimeException e) {
            got = e.getClass().getName();
        }
        if (!got.equals(want.getName())) {
            wrong++;
            System.out.println(promise + ": " + what + " gave " + got + ", due is " + want.getName());
        }
    }

    private static void thrownByCancel(Leavebank book, int request, Class<?> want) {
        thrown("cancel " + request, want, () -> {
            book.cancel(request);
            return 0;
        });
    }

    /** A book with one person of the first day 0. */
    private static Leavebank bookWith(int right, int hours) {
        Leavebank book = new Leavebank();
        book.addPerson(right, hours);
        return book;
    }

    private static void passTo(Leavebank book, int day) {
        while (book.today() < day) {
            book.pass(Math.min(400, day - book.today()));
        }
    }

    public static void main(String[] args) {
        newObject();
        addPerson();
        setHours();
        setHoursLimits();
        request();
        change();
        cancel();
        sick();
        payOut();
        payOutLimits();
        pass();
        today();
        people();
        workingDays();
        hours();
        onLeave();
        balance();
        balanceBySums();
        earned();
        earnedWithService();
        taken();
        takenFromLotsInOrder();
        expired();
        paid();
        paidAnew();
        borrowed();
        unpaid();
        nextExpiry();
        wrongInputsOfBalances();
        if (wrong != 0) {
            System.out.println(wrong + " wrong");
            System.exit(1);
        }
    }

    private static void newObject() {
        promise = "1";
        Leavebank book = new Leavebank();
        due("people", book.people(), 0);
        due("today", book.today(), 0);
        due("NONE", Leavebank.NONE, -1);
        thrown("no person", INDEX, () -> book.hours(0, 0));
        thrownByCancel(book, 0, INDEX);
        Leavebank other = bookWith(40, 10);
        other.pass(7);
        due("another book is its own", new Leavebank().today() + book.people(), 0);
    }

    private static void addPerson() {
        promise = "2";
        Leavebank book = new Leavebank();
        for (int right : new int[] {19, 81, 0, -1, Integer.MIN_VALUE, Integer.MAX_VALUE}) {
            thrown("right " + right, ARGUMENT, () -> book.addPerson(right, 5));
        }
        for (int hours : new int[] {0, 11, -1, Integer.MIN_VALUE, Integer.MAX_VALUE}) {
            thrown("hours " + hours, ARGUMENT, () -> book.addPerson(40, hours));
        }
        due("what throws changes nothing", book.people(), 0);
        due("least", book.addPerson(20, 1), 0);
        due("most", book.addPerson(80, 10), 1);
        book.pass(45);
        due("later", book.addPerson(40, 10), 2);
        due("no day of the first", book.earned(0, 30), 40);
        due("first day is today", book.earned(2, 60), 0);
        due("first full month", book.earned(2, 90), 800);
        thrown("ahead of the first day", ARGUMENT, () -> book.hours(2, 44));
        due("first day", book.hours(2, 45), 10);
        for (int number = 3; number < 8; number++) {
            due("number", book.addPerson(40, 10), number);
        }
        thrown("a ninth", STATE, () -> book.addPerson(40, 10));
        thrown("a ninth with a wrong right", ARGUMENT, () -> book.addPerson(19, 10));
        thrown("a ninth with wrong hours", ARGUMENT, () -> book.addPerson(40, 0));
        due("people", book.people(), 8);
        Leavebank last = new Leavebank();
        passTo(last, 3600);
        due("on the last day", last.addPerson(40, 10), 0);
        due("on the last day", last.balance(0, 3600), 0);
        due("on the last day", last.hours(0, 3600), 10);
    }

    private static void setHours() {
        promise = "3";
        Leavebank book = bookWith(40, 10);
        due("before", book.setHours(0, 30, 5), 10);
        due("day ahead", book.hours(0, 29), 10);
        due("day", book.hours(0, 30), 5);
        due("the month before counts the day before", book.earned(0, 30), 800);
        due("next month", book.earned(0, 60), 800 + 400);
        due("replaced", book.setHours(0, 30, 8), 5);
        due("replaced", book.hours(0, 3600), 8);
        due("ahead of it", book.setHours(0, 10, 2), 10);
        due("ahead of it", book.hours(0, 29), 2);
        due("until the next change", book.hours(0, 30), 8);
        due("earned anew", book.earned(0, 30), 160);
        due("behind all", book.setHours(0, 100, 1), 8);
        due("between", book.hours(0, 99), 8);
        due("first day", book.setHours(0, 0, 3), 10);
        due("first day", book.hours(0, 9), 3);
        due("last day", book.setHours(0, 3600, 10), 1);
        due("last day", book.hours(0, 3599), 1);
        due("last day", book.hours(0, 3600), 10);
        book.pass(5);
        book.addPerson(40, 7);
        due("another person", book.hours(1, 3600), 7);
        thrown("person", INDEX, () -> book.setHours(2, -1, 0));
        thrown("person", INDEX, () -> book.setHours(-1, 5, 5));
        thrown("ahead of the first day", ARGUMENT, () -> book.setHours(1, 4, 5));
        thrown("behind the last day", ARGUMENT, () -> book.setHours(1, 3601, 5));
        thrown("hours", ARGUMENT, () -> book.setHours(1, 5, 0));
        thrown("hours", ARGUMENT, () -> book.setHours(1, 5, 11));
        due("nothing changed", book.hours(1, 5), 7);
    }

    private static void setHoursLimits() {
        Leavebank book = bookWith(40, 10);
        for (int i = 0; i < 10; i++) {
            due("change " + i, book.setHours(0, 1000 - 10 * i, i + 1), 10);
        }
        thrown("an eleventh", STATE, () -> book.setHours(0, 5, 5));
        thrown("an eleventh with wrong hours", ARGUMENT, () -> book.setHours(0, 5, 11));
        due("nothing changed", book.hours(0, 5), 10);
        due("replaced when full", book.setHours(0, 960, 9), 5);
        due("replaced when full", book.hours(0, 969), 9);
        due("replaced when full", book.setHours(0, 910, 4), 10);
        due("still the next", book.hours(0, 920), 9);
        thrown("still full", STATE, () -> book.setHours(0, 911, 5));
        book.addPerson(40, 10);
        due("another person has places", book.setHours(1, 5, 5), 10);
    }

    private static void request() {
        promise = "4";
        Leavebank book = bookWith(40, 10);
        due("number", book.request(0, 30, 34, false), 0);
        due("a working day", book.onLeave(0, 30), 2);
        due("taken", book.taken(0, 34), 3 * 480);
        due("one day", book.request(0, 35, 35, true), 1);
        due("half", book.taken(0, 35), 3 * 480 + 240);
        book.pass(10);
        book.addPerson(40, 10);
        due("past days too", book.request(1, 10, 3600, false), 2);
        due("for that person alone", book.onLeave(0, 36), 0);
        thrown("person", INDEX, () -> book.request(2, 5, 4, false));
        thrown("person", INDEX, () -> book.request(-1, 30, 31, false));
        thrown("ahead of the first day", ARGUMENT, () -> book.request(1, 9, 12, false));
        thrown("last ahead of first", ARGUMENT, () -> book.request(1, 12, 11, false));
        thrown("behind the last day", ARGUMENT, () -> book.request(1, 12, 3601, true));
        thrown("far", ARGUMENT, () -> book.request(1, Integer.MIN_VALUE, Integer.MAX_VALUE, true));
        for (int number = 3; number < 40; number++) {
            due("what threw has no number", book.request(0, 3600, 3600, false), number);
        }
        thrown("a 41st", STATE, () -> book.request(0, 40, 41, false));
        thrown("a 41st with wrong days", ARGUMENT, () -> book.request(0, 41, 40, false));
        due("nothing changed", book.onLeave(0, 40), 0);
        book.cancel(5);
        thrown("cancelled ones count", STATE, () -> book.request(0, 40, 41, false));
    }

    private static void change() {
        promise = "5";
        Leavebank book = bookWith(40, 10);
        book.request(0, 31, 40, false);
        book.request(0, 35, 36, true);
        due("days before", book.change(0, 50, 50), 10);
        due("not any more", book.onLeave(0, 31), 0);
        due("the other request stands", book.onLeave(0, 36), 1);
        due("now", book.onLeave(0, 50), 2);
        due("not behind", book.onLeave(0, 51), 0);
        due("one day", book.change(0, 49, 52), 1);
        due("weekend, sick or not", book.change(0, 0, 3600), 4);
        due("all days", book.change(0, 60, 61), 3601);
        book.pass(100);
        book.addPerson(40, 10);
        due("past ones too", book.change(0, 21, 22), 2);
        due("past ones too", book.taken(0, 36), 960 + 480);
        book.request(1, 120, 121, false);
        thrown("the person's first day", ARGUMENT, () -> book.change(2, 99, 101));
        due("first day", book.change(2, 100, 101), 2);
        thrown("last ahead of first", ARGUMENT, () -> book.change(2, 101, 100));
        thrown("behind the last day", ARGUMENT, () -> book.change(2, 100, 3601));
        thrown("no request", INDEX, () -> book.change(3, 101, 100));
        thrown("no request", INDEX, () -> book.change(-1, 100, 101));
        thrown("no request", INDEX, () -> book.change(40, 100, 101));
        due("nothing changed", book.change(2, 105, 105), 2);
        book.cancel(2);
        thrown("cancelled, wrong days", ARGUMENT, () -> book.change(2, 99, 101));
        thrown("cancelled", STATE, () -> book.change(2, 100, 101));
        due("no leave", book.onLeave(1, 100) + book.onLeave(1, 105), 0);
    }

    private static void cancel() {
        promise = "6";
        Leavebank book = bookWith(40, 10);
        book.request(0, 28, 34, false);
        book.request(0, 30, 30, true);
        due("taken", book.taken(0, 60), 5 * 480);
        book.pass(60);
        book.cancel(0);
        due("past days too", book.taken(0, 60), 240);
        due("the other one stands", book.onLeave(0, 30), 1);
        due("not on leave", book.onLeave(0, 31), 0);
        due("numbers go on", book.request(0, 35, 35, false), 2);
        thrownByCancel(book, 0, STATE);
        thrownByCancel(book, 3, INDEX);
        thrownByCancel(book, -1, INDEX);
        thrownByCancel(book, Integer.MAX_VALUE, INDEX);
        thrownByCancel(book, Integer.MIN_VALUE, INDEX);
        due("nothing changed", book.taken(0, 60), 240 + 480);
    }

    private static void sick() {
        promise = "7";
        Leavebank book = bookWith(40, 10);
        book.request(0, 35, 39, false);
        due("taken", book.taken(0, 39), 5 * 480);
        due("spells", book.sick(0, 36, 37), 1);
        due("days come back", book.taken(0, 39), 3 * 480);
        due("not on leave", book.onLeave(0, 36) + book.onLeave(0, 37), 0);
        due("on leave", book.onLeave(0, 35) + book.onLeave(0, 38), 4);
        due("ahead of a request", book.sick(0, 42, 42), 2);
        book.request(0, 42, 43, true);
        due("ahead of a request", book.onLeave(0, 42), 0);
        due("ahead of a request", book.onLeave(0, 43), 1);
        book.change(1, 36, 43);
        due("a change too", book.onLeave(0, 36) + book.onLeave(0, 42), 0);
        due("between the spells", book.onLeave(0, 38), 2);
        due("behind the spells", book.onLeave(0, 43), 1);
        book.pass(50);
        book.addPerson(40, 10);
        book.request(1, 50, 60, false);
        due("past days too", book.sick(0, 0, 3600), 3);
        due("past days too", book.taken(0, 3600), 0);
        due("another person", book.onLeave(1, 51), 2);
        thrown("person", INDEX, () -> book.sick(2, 51, 50));
        thrown("person", INDEX, () -> book.sick(-1, 50, 50));
        thrown("ahead of the first day", ARGUMENT, () -> book.sick(1, 49, 50));
        thrown("last ahead of first", ARGUMENT, () -> book.sick(1, 51, 50));
        thrown("behind the last day", ARGUMENT, () -> book.sick(1, 50, 3601));
        due("the first day", book.sick(1, 50, 50), 4);
        for (int spells = 5; spells <= 30; spells++) {
            due("for all people", book.sick(spells % 2, 3600, 3600), spells);
        }
        thrown("a 31st", STATE, () -> book.sick(1, 51, 51));
        thrown("a 31st with wrong days", ARGUMENT, () -> book.sick(1, 51, 50));
        due("nothing changed", book.onLeave(1, 51), 2);
    }

    private static void payOut() {
        promise = "8";
        Leavebank book = bookWith(40, 10);
        thrown("no lots", STATE, () -> book.payOut(0, 1));
        book.pass(30);
        thrown("more than the lots", STATE, () -> book.payOut(0, 801));
        due("number", book.payOut(0, 500), 0);
        thrown("more than is left", STATE, () -> book.payOut(0, 301));
        due("all that is left", book.payOut(0, 300), 1);
        due("paid", book.paid(0, 30), 800);
        due("nothing left", book.balance(0, 30), 0);
        thrown("nothing left", STATE, () -> book.payOut(0, 1));
        due("no borrowing", book.borrowed(0, 30), 0);
        due("not the day before", book.paid(0, 29), 0);
        due("next lot", book.balance(0, 60), 800);
        book.request(0, 60, 60, false);
        book.pass(30);
        thrown("leave goes first", STATE, () -> book.payOut(0, 321));
        due("what leave left", book.payOut(0, 320), 2);
        book.pass(30);
        book.addPerson(40, 10);
        thrown("a new person", STATE, () -> book.payOut(1, 1));
        thrown("person", INDEX, () -> book.payOut(2, 0));
        thrown("person", INDEX, () -> book.payOut(-1, 1));
        thrown("points", ARGUMENT, () -> book.payOut(0, 0));
        thrown("points", ARGUMENT, () -> book.payOut(0, 20001));
        thrown("points", ARGUMENT, () -> book.payOut(0, Integer.MIN_VALUE));
        thrown("points", ARGUMENT, () -> book.payOut(0, Integer.MAX_VALUE));
        due("what threw has no number", book.payOut(0, 1), 3);
        due("with debts there are no lots", debtorPayOut(), 0);
    }

    private static int debtorPayOut() {
        Leavebank book = bookWith(20, 5);
        book.request(0, 0, 4, false);
        book.pass(30);
        thrown("a debtor", STATE, () -> book.payOut(0, 1));
        return book.paid(0, 30);
    }

    private static void payOutLimits() {
        Leavebank book = bookWith(80, 10);
        passTo(book, 360);
        due("the most points", book.payOut(0, 19200), 0);
        passTo(book, 720);
        thrown("20000 is in range", STATE, () -> book.payOut(0, 20000));
        passTo(book, 750);
        due("the most points", book.payOut(0, 20000), 1);
        for (int number = 2; number < 20; number++) {
            due("number", book.payOut(0, 1), number);
        }
        thrown("a 21st", STATE, () -> book.payOut(0, 1));
        thrown("a 21st with wrong points", ARGUMENT, () -> book.payOut(0, 0));
        due("paid", book.paid(0, 750), 19200 + 20000 + 18);
    }

    private static void pass() {
        promise = "9";
        Leavebank book = new Leavebank();
        due("one day", book.pass(1), 1);
        due("most days", book.pass(400), 401);
        for (int days : new int[] {0, -1, 401, Integer.MIN_VALUE, Integer.MAX_VALUE}) {
            thrown("days " + days, ARGUMENT, () -> book.pass(days));
        }
        due("nothing changed", book.today(), 401);
        passTo(book, 3599);
        thrown("too late", STATE, () -> book.pass(2));
        due("nothing changed", book.today(), 3599);
        due("the last day", book.pass(1), 3600);
        thrown("behind the last day", STATE, () -> book.pass(1));
        thrown("wrong days first", ARGUMENT, () -> book.pass(401));
        due("nothing changed", book.today(), 3600);
    }

    private static void today() {
        promise = "10";
        Leavebank book = bookWith(40, 10);
        due("today", book.today(), 0);
        book.pass(33);
        book.pass(9);
        due("today", book.today(), 42);
        book.request(0, 100, 200, false);
        book.balance(0, 3600);
        due("entries and questions let no day pass", book.today(), 42);
    }

    private static void people() {
        promise = "11";
        Leavebank book = new Leavebank();
        for (int many = 1; many <= 8; many++) {
            book.addPerson(40, 10);
            due("people", book.people(), many);
        }
    }

    private static void workingDays() {
        promise = "12";
        Leavebank book = new Leavebank();
        due("a week", book.workingDays(0, 6), 5);
        due("both counted", book.workingDays(4, 7), 2);
        due("one working day", book.workingDays(4, 4), 1);
        due("one free day", book.workingDays(5, 5), 0);
        due("the last free day", book.workingDays(6, 6), 0);
        due("all", book.workingDays(0, 3600), 2573);
        due("the last day", book.workingDays(3600, 3600), 1);
        int counted = 0;
        for (int last = 11; last <= 60; last++) {
            counted += last % 7 < 5 ? 1 : 0;
            due("11 to " + last, book.workingDays(11, last), counted);
        }
        thrown("first", ARGUMENT, () -> book.workingDays(-1, 5));
        thrown("last", ARGUMENT, () -> book.workingDays(0, 3601));
        thrown("last ahead of first", ARGUMENT, () -> book.workingDays(6, 5));
        thrown("far", ARGUMENT, () -> book.workingDays(0, Integer.MAX_VALUE));
        thrown("far", ARGUMENT, () -> book.workingDays(Integer.MIN_VALUE, 0));
    }

    private static void hours() {
        promise = "13";
        Leavebank book = new Leavebank();
        book.pass(20);
        book.addPerson(40, 6);
        due("first day", book.hours(0, 20), 6);
        due("last day", book.hours(0, 3600), 6);
        book.setHours(0, 500, 3);
        book.setHours(0, 400, 9);
        due("ahead", book.hours(0, 399), 6);
        due("from", book.hours(0, 400), 9);
        due("until", book.hours(0, 499), 9);
        due("from", book.hours(0, 500), 3);
        thrown("ahead of the first day", ARGUMENT, () -> book.hours(0, 19));
        thrown("behind the last day", ARGUMENT, () -> book.hours(0, 3601));
        thrown("person", INDEX, () -> book.hours(1, 19));
        thrown("person", INDEX, () -> book.hours(-1, 20));
        thrown("person", INDEX, () -> book.hours(8, 20));
    }

    private static void onLeave() {
        promise = "14";
        Leavebank book = bookWith(40, 10);
        book.request(0, 7, 20, true);
        book.request(0, 9, 9, false);
        due("ahead", book.onLeave(0, 6), 0);
        due("half", book.onLeave(0, 7), 1);
        due("not all are half", book.onLeave(0, 9), 2);
        due("half", book.onLeave(0, 10), 1);
        due("no working day", book.onLeave(0, 12) + book.onLeave(0, 13), 0);
        due("last day", book.onLeave(0, 18), 1);
        due("behind", book.onLeave(0, 21), 0);
        book.request(0, 10, 10, true);
        due("two halves are half", book.onLeave(0, 10), 1);
        book.cancel(1);
        due("cancelled", book.onLeave(0, 9), 1);
        book.sick(0, 8, 9);
        due("sick", book.onLeave(0, 9), 0);
        book.request(0, 0, 3600, false);
        due("the last day", book.onLeave(0, 3600), 2);
        book.pass(50);
        book.addPerson(40, 10);
        due("ahead of the first day", book.onLeave(1, 0), 0);
        for (int day : NO_DAYS) {
            thrown("day " + day, ARGUMENT, () -> book.onLeave(0, day));
            thrown("person first", INDEX, () -> book.onLeave(2, day));
        }
        thrown("person", INDEX, () -> book.onLeave(-1, 0));
    }

    private static void balance() {
        promise = "15";
        Leavebank book = new Leavebank();
        book.pass(30);
        book.addPerson(40, 10);
        due("ahead of the first day", book.balance(0, 0), 0);
        due("first day", book.balance(0, 30), 0);
        due("the day before", book.balance(0, 59), 0);
        due("the month began on the first day", book.balance(0, 60), 800);
        due("ahead of today", book.balance(0, 90), 1600);
        book.request(0, 91, 91, false);
        due("ahead of leave", book.balance(0, 90), 1600);
        due("behind leave", book.balance(0, 91), 1120);
        book.request(0, 42, 46, false);
        due("borrowed", book.balance(0, 46), -2400);
        due("paid back", book.balance(0, 90), -2400 + 1600);
        due("borrowed again", book.balance(0, 91), -2400 + 1600 - 480);
        due("a lot and no debts", book.balance(0, 150), 4 * 800 - 6 * 480);
        due("the last day", bookWith(80, 10).balance(0, 3600), 12 * 2 * 86 * 10);
    }

    private static void balanceBySums() {
        promise = "16";
        Leavebank book = bookWith(77, 9);
        book.request(0, 14, 20, false);
        book.request(0, 200, 260, true);
        book.sick(0, 210, 220);
        passTo(book, 420);
        book.payOut(0, 1000);
        for (int day = 0; day <= 3600; day += 20) {
            due("day " + day, book.balanceBySums(0, day), book.balance(0, day));
        }
        due("ahead of the first day", book.balanceBySums(0, 3), 0);
        due("borrowed", book.balanceBySums(0, 18), -2400);
        due("earned, taken and paid", book.balanceBySums(0, 420),
                14 * 1386 - book.taken(0, 420) - 1000);
        due("expired", book.balanceBySums(0, 450), 3 * 1386);
    }

    private static void earned() {
        promise = "17";
        Leavebank book = bookWith(31, 7);
        due("day 0", book.earned(0, 0), 0);
        due("a month", book.earned(0, 29), 0);
        due("a month", book.earned(0, 30), 434);
        due("a year", book.earned(0, 360), 12 * 434);
        book.request(0, 0, 0, false);
        due("what is paid back counts", book.earned(0, 30), 434);
        book.setHours(0, 29, 10);
        due("hours of the day before", book.earned(0, 30), 620);
        book.setHours(0, 30, 1);
        due("not of the day", book.earned(0, 30), 620);
        due("but for the next", book.earned(0, 60), 620 + 62);
        book.pass(1);
        book.addPerson(20, 10);
        due("no full month", book.earned(1, 30), 0);
        due("no full month", book.earned(1, 59), 0);
        due("a full month", book.earned(1, 60), 400);
    }

    private static void earnedWithService() {
        Leavebank book = bookWith(20, 10);
        book.pass(1);
        book.addPerson(20, 10);
        due("3 years on the day", earnedOn(book, 0, 1080), 440);
        due("ahead of it", earnedOn(book, 0, 1050), 400);
        due("not 3 years yet", earnedOn(book, 1, 1080), 400);
        due("3 years", earnedOn(book, 1, 1110), 440);
        due("5 years", earnedOn(book, 0, 2130), 440);
        due("6 years", earnedOn(book, 0, 2160), 480);
        due("9 years", earnedOn(book, 0, 3240), 520);
        due("10 years", earnedOn(book, 0, 3600), 520);
        due("above the most right", earnedOn(bookWith(80, 10), 0, 3600), 1720);
    }

    private static int earnedOn(Leavebank book, int person, int day) {
        return book.earned(person, day) - book.earned(person, day - 1);
    }

    private static void taken() {
        promise = "18";
        Leavebank book = bookWith(80, 10);
        book.request(0, 35, 36, false);
        book.request(0, 37, 38, true);
        due("ahead", book.taken(0, 34), 0);
        due("a day", book.taken(0, 35), 480);
        due("two", book.taken(0, 36), 960);
        due("half", book.taken(0, 37), 1200);
        due("behind", book.taken(0, 3600), 1440);
        book.request(0, 0, 1, false);
        due("borrowed counts when it is taken", book.taken(0, 0), 480);
        due("and not when it is paid back", book.taken(0, 34), 960);
        book.request(0, 4, 10, false);
        due("no weekend", book.taken(0, 6), 3 * 480);
        due("up to what can be borrowed", book.taken(0, 10), 2400);
        due("unpaid days take nothing", book.taken(0, 29), 2400);
    }

    private static void takenFromLotsInOrder() {
        Leavebank book = bookWith(20, 10);
        passTo(book, 390);
        due("both years", book.balance(0, 390), 13 * 400);
        book.payOut(0, 12 * 400 - 300);
        book.request(0, 392, 392, false);
        due("first what expires first", book.nextExpiry(0, 391), 450);
        due("then the next lot", book.nextExpiry(0, 392), 810);
        due("rest", book.balance(0, 392), 700 - 480);
        due("nothing expires", book.expired(0, 450), 0);
        book.request(0, 450, 450, false);
        due("what expires on the day is gone ahead of leave", book.taken(0, 450), 960);
        book.cancel(0);
        due("what expires on the day is gone ahead of leave", book.expired(0, 450), 300);
        due("what is earned on the day is there", book.balance(0, 450), 3 * 400 - 480);
    }

    private static void expired() {
        promise = "19";
        Leavebank book = bookWith(40, 10);
        due("ahead", book.expired(0, 449), 0);
        due("a year", book.expired(0, 450), 12 * 800);
        due("not again", book.expired(0, 809), 12 * 800);
        due("next year", book.expired(0, 810), 24 * 800);
        due("all that is earned up to 3240", book.expired(0, 3600), 35 * 800 + 36 * 840 + 36 * 880 + 920);
        book.request(0, 445, 451, false);
        due("less what is taken ahead of it", book.expired(0, 450), 12 * 800 - 3 * 480);
        Leavebank debtor = bookWith(20, 1);
        debtor.request(0, 0, 4, false);
        due("what pays back does not expire", debtor.expired(0, 450), 0);
        due("debts do not expire", debtor.borrowed(0, 450), 2400 - 15 * 40);
    }

    private static void paid() {
        promise = "20";
        Leavebank book = bookWith(40, 10);
        book.pass(60);
        book.payOut(0, 100);
        book.payOut(0, 200);
        book.pass(10);
        book.payOut(0, 400);
        due("ahead", book.paid(0, 59), 0);
        due("with the day", book.paid(0, 60), 300);
        due("ahead of the next", book.paid(0, 69), 300);
        due("next", book.paid(0, 70), 700);
        due("sums", book.paid(0, 3600), 700);
        due("balance", book.balance(0, 70), 900);
        book.addPerson(40, 10);
        due("another person", book.paid(1, 3600), 0);
        passTo(book, 120);
        book.payOut(1, 333);
        due("another person", book.paid(1, 119), 0);
        due("another person", book.paid(1, 120), 333);
        due("not the first", book.paid(0, 120), 700);
    }

    private static void paidAnew() {
        Leavebank book = bookWith(40, 10);
        passTo(book, 392);
        book.payOut(0, 12 * 800);
        due("first what expires first", book.expired(0, 450), 0);
        due("then the rest", book.nextExpiry(0, 392), 810);
        book.setHours(0, 0, 1);
        due("as far as they go", book.paid(0, 392), 13 * 80);
        due("nothing is borrowed", book.borrowed(0, 392), 0);
        book.setHours(0, 0, 10);
        book.request(0, 392, 392, false);
        due("leave goes first", book.paid(0, 392), 12 * 800);
        book.payOut(0, 320);
        book.request(0, 389, 389, false);
        due("the later ones get less", book.paid(0, 392), 13 * 800 - 960);
        due("leave ahead", book.taken(0, 392), 960);
        due("balance", book.balance(0, 392), 0);
    }

    private static void borrowed() {
        promise = "21";
        Leavebank book = bookWith(20, 10);
        book.request(0, 31, 31, false);
        due("nothing", book.borrowed(0, 30), 0);
        due("all lots first", book.borrowed(0, 31), 80);
        due("nothing left", book.nextExpiry(0, 31), -1);
        due("paid back", book.borrowed(0, 60), 0);
        due("the rest is a lot", book.balance(0, 60), 320);
        book.change(0, 0, 4);
        due("the most", book.borrowed(0, 4), 2400);
        due("a part is paid back", book.borrowed(0, 30), 2000);
        book.request(0, 30, 30, false);
        due("up to the most again", book.borrowed(0, 30), 2000);
        due("more than the most is not borrowed", book.unpaid(0, 30), 1);
        book.cancel(1);
        book.request(0, 30, 30, true);
        due("half fits", book.borrowed(0, 30), 2240);
        due("half is taken", book.taken(0, 30), 2640);
        due("2400 in all", borrowedWithLots(240), 2400);
        due("2401 in all", borrowedWithLots(239), 2161);
    }

    private static int borrowedWithLots(int points) {
        Leavebank book = bookWith(20, 10);
        book.pass(30);
        book.payOut(0, 400 - points);
        book.request(0, 35, 39, false);
        book.request(0, 42, 42, true);
        return book.borrowed(0, 42);
    }

    private static void unpaid() {
        promise = "22";
        Leavebank book = bookWith(20, 1);
        book.request(0, 0, 13, false);
        due("ahead", book.unpaid(0, 4), 0);
        due("weekend", book.unpaid(0, 6), 0);
        due("a day", book.unpaid(0, 7), 1);
        due("days", book.unpaid(0, 13), 5);
        book.request(0, 14, 15, true);
        due("half days are days", book.unpaid(0, 15), 7);
        due("they are no debts", book.borrowed(0, 29), 2400);
        due("they are no debts", book.balanceBySums(0, 29), -2400);
        book.sick(0, 7, 8);
        due("sick days are not", book.unpaid(0, 15), 5);
        book.cancel(0);
        due("cancelled ones are not", book.unpaid(0, 3600), 0);
        Leavebank some = bookWith(20, 10);
        some.request(0, 0, 4, false);
        some.request(0, 151, 151, false);
        some.setHours(0, 31, 1);
        due("what the lots had is kept", some.unpaid(0, 151), 0);
        due("debts", some.borrowed(0, 150), 2400 - 400 - 4 * 40);
        some.setHours(0, 120, 10);
        due("and 480 would be too much", some.unpaid(0, 151) + some.borrowed(0, 151), 2400 - 920 + 480);
    }

    private static void nextExpiry() {
        promise = "23";
        Leavebank book = bookWith(24, 10);
        due("none", book.nextExpiry(0, 29), Leavebank.NONE);
        due("a lot", book.nextExpiry(0, 30), 450);
        due("the last of the year", book.nextExpiry(0, 449), 450);
        due("expired on the day", book.nextExpiry(0, 450), 810);
        due("behind the last day", book.nextExpiry(0, 3600), 3690);
        due("ahead of the day", book.nextExpiry(0, 3329), 3330);
        book.request(0, 30, 30, false);
        due("a lot without points is none", book.nextExpiry(0, 30), Leavebank.NONE);
        due("as if nothing was taken later", book.nextExpiry(0, 60), 450);
        book.request(0, 70, 70, false);
        due("as if nothing was taken later", book.nextExpiry(0, 60), 450);
        due("taken", book.nextExpiry(0, 70), Leavebank.NONE);
        book.request(0, 0, 0, false);
        due("a lot that only paid back is none", book.nextExpiry(0, 30), Leavebank.NONE);
        book.pass(330);
        book.addPerson(20, 10);
        due("ahead of the first day", book.nextExpiry(1, 0), Leavebank.NONE);
        due("no full month", book.nextExpiry(1, 359), Leavebank.NONE);
        due("the day before counts", book.nextExpiry(1, 360), 450);
        book.request(1, 360, 360, true);
        book.request(1, 361, 361, true);
        due("used up", book.nextExpiry(1, 361), Leavebank.NONE);
        due("the next year", book.nextExpiry(1, 390), 810);
    }

    private static void wrongInputsOfBalances() {
        Leavebank book = bookWith(40, 10);
        BalanceCall[] calls = {book::balance, book::balanceBySums, book::earned, book::taken, book::expired,
            book::paid, book::borrowed, book::unpaid, book::nextExpiry};
        int[] onDay60 = {1600, 1600, 1600, 0, 0, 0, 0, 0, 450};
        for (int i = 0; i < calls.length; i++) {
            promise = String.valueOf(15 + i);
            BalanceCall call = calls[i];
            for (int day : NO_DAYS) {
                thrown("day " + day, ARGUMENT, () -> call.on(0, day));
                thrown("person first", INDEX, () -> call.on(1, day));
            }
            for (int person : new int[] {-1, 1, 7, 8, Integer.MIN_VALUE, Integer.MAX_VALUE}) {
                thrown("person " + person, INDEX, () -> call.on(person, 0));
            }
            due("day 0", call.on(0, 0), i == calls.length - 1 ? Leavebank.NONE : 0);
            due("day 60", call.on(0, 60), onDay60[i]);
        }
    }
}
