/** A leave book. What each call does is said in DOC.md, promise by promise. */
public final class Leavebank {
    /** No day. */
    public static final int NONE = -1;

    private static final int LAST_DAY = 3600;
    private static final int MONTH_DAYS = 30;
    private static final int YEAR_DAYS = 360;
    private static final int WEEK_DAYS = 7;
    private static final int WEEK_WORKING_DAYS = 5;
    private static final int EXPIRY_DAY_OF_YEAR = 90;

    private static final int MOST_PEOPLE = 8;
    private static final int MOST_CHANGES = 10;
    private static final int MOST_REQUESTS = 40;
    private static final int MOST_SPELLS = 30;
    private static final int MOST_PAYOUTS = 20;
    /** A person earns at most once a month, and never on the day 0. */
    private static final int MOST_LOTS = LAST_DAY / MONTH_DAYS;

    private static final int LEAST_RIGHT = 20;
    private static final int MOST_RIGHT = 80;
    private static final int LEAST_HOURS = 1;
    private static final int MOST_HOURS = 10;
    private static final int MOST_POINTS_OF_PAYOUT = 20000;
    private static final int MOST_DAYS_TO_PASS = 400;

    private static final int MONTHLY_FACTOR = 2;
    private static final int YEARS_FOR_BONUS = 3;
    private static final int BONUS = 2;
    private static final int MOST_BONUS = 10;
    private static final int POINTS_OF_LEAVE = 480;
    private static final int POINTS_OF_HALF_LEAVE = 240;
    private static final int MOST_BORROWED = 2400;

    private static final int NOT_ON_LEAVE = 0;
    private static final int ON_HALF_LEAVE = 1;
    private static final int ON_LEAVE = 2;

    private final Person[] persons = new Person[MOST_PEOPLE];
    private int personCount;
    private final Request[] requests = new Request[MOST_REQUESTS];
    private int requestCount;
    private int spellCount;
    private int payoutCount;
    private int currentDay;
    /** One ledger for all balances, so that asking makes no objects. */
    private final Ledger ledger = new Ledger();

    public Leavebank() {
    }

    // ---- entries

    public int addPerson(int right, int hours) throws IllegalArgumentException, IllegalStateException {
        if (right < LEAST_RIGHT || right > MOST_RIGHT) {
            throw new IllegalArgumentException("right is out of range");
        }
        checkHours(hours);
        if (personCount >= persons.length) {
            throw new IllegalStateException("there are 8 people");
        }
        int number = personCount;
        persons[number] = new Person(currentDay, right, hours);
        personCount = number + 1;
        return number;
    }

    public int setHours(int person, int day, int hours)
            throws IndexOutOfBoundsException, IllegalArgumentException, IllegalStateException {
        Person changed = personAt(person);
        checkDay(changed.firstDay, day);
        checkHours(hours);
        int before = changed.hoursOn(day);
        if (!changed.enterHours(day, hours)) {
            throw new IllegalStateException("10 changes for other days are entered");
        }
        return before;
    }

    public int request(int person, int first, int last, boolean isHalf)
            throws IndexOutOfBoundsException, IllegalArgumentException, IllegalStateException {
        Person owner = personAt(person);
        checkDays(owner.firstDay, first, last);
        if (requestCount >= requests.length) {
            throw new IllegalStateException("there are 40 requests");
        }
        Request entered = new Request(owner, first, last, isHalf);
        owner.enterRequest(entered);
        int number = requestCount;
        requests[number] = entered;
        requestCount = number + 1;
        return number;
    }

    public int change(int request, int first, int last)
            throws IndexOutOfBoundsException, IllegalArgumentException, IllegalStateException {
        Request changed = requestAt(request);
        checkDays(changed.owner.firstDay, first, last);
        if (changed.isCancelled) {
            throw new IllegalStateException("the request is cancelled");
        }
        int oldFirst = changed.firstDay;
        int oldLast = changed.lastDay;
        changed.firstDay = first;
        changed.lastDay = last;
        changed.owner.markLeave(oldFirst, oldLast);
        changed.owner.markLeave(first, last);
        return oldLast - oldFirst + 1;
    }

    public void cancel(int request) throws IndexOutOfBoundsException, IllegalStateException {
        Request cancelled = requestAt(request);
        if (cancelled.isCancelled) {
            throw new IllegalStateException("the request is cancelled");
        }
        cancelled.isCancelled = true;
        cancelled.owner.markLeave(cancelled.firstDay, cancelled.lastDay);
    }

    public int sick(int person, int first, int last)
            throws IndexOutOfBoundsException, IllegalArgumentException, IllegalStateException {
        Person ill = personAt(person);
        checkDays(ill.firstDay, first, last);
        if (spellCount >= MOST_SPELLS) {
            throw new IllegalStateException("there are 30 spells");
        }
        ill.enterSpell(first, last);
        spellCount++;
        return spellCount;
    }

    public int payOut(int person, int points)
            throws IndexOutOfBoundsException, IllegalArgumentException, IllegalStateException {
        Person receiver = personAt(person);
        if (points < 1 || points > MOST_POINTS_OF_PAYOUT) {
            throw new IllegalArgumentException("points are out of range");
        }
        if (payoutCount >= MOST_PAYOUTS) {
            throw new IllegalStateException("there are 20 payouts");
        }
        ledger.goThrough(receiver, currentDay);
        if (ledger.pointsInLots() < points) {
            throw new IllegalStateException("the lots have less than that");
        }
        receiver.enterPayout(currentDay, points);
        int number = payoutCount;
        payoutCount = number + 1;
        return number;
    }

    public int pass(int days) throws IllegalArgumentException, IllegalStateException {
        if (days < 1 || days > MOST_DAYS_TO_PASS) {
            throw new IllegalArgumentException("days are out of range");
        }
        if (currentDay + days > LAST_DAY) {
            throw new IllegalStateException("today would be later than 3600");
        }
        currentDay += days;
        return currentDay;
    }

    // ---- calendar and people

    public int today() {
        return currentDay;
    }

    public int people() {
        return personCount;
    }

    public int workingDays(int first, int last) throws IllegalArgumentException {
        checkDays(0, first, last);
        return workingDaysAheadOf(last + 1) - workingDaysAheadOf(first);
    }

    public int hours(int person, int day) throws IndexOutOfBoundsException, IllegalArgumentException {
        Person asked = personAt(person);
        checkDay(asked.firstDay, day);
        return asked.hoursOn(day);
    }

    public int onLeave(int person, int day) throws IndexOutOfBoundsException, IllegalArgumentException {
        Person asked = personAt(person);
        checkDay(0, day);
        return asked.leaveOn(day);
    }

    // ---- balances; days may lie ahead, up to 3600

    public int balance(int person, int day) throws IndexOutOfBoundsException, IllegalArgumentException {
        Ledger behind = ledgerBehind(person, day);
        return behind.pointsInLots() - behind.debt;
    }

    public int balanceBySums(int person, int day) throws IndexOutOfBoundsException, IllegalArgumentException {
        Ledger behind = ledgerBehind(person, day);
        return behind.sumEarned - behind.sumTaken - behind.sumExpired - behind.sumPaid;
    }

    public int earned(int person, int day) throws IndexOutOfBoundsException, IllegalArgumentException {
        return ledgerBehind(person, day).sumEarned;
    }

    public int taken(int person, int day) throws IndexOutOfBoundsException, IllegalArgumentException {
        return ledgerBehind(person, day).sumTaken;
    }

    public int expired(int person, int day) throws IndexOutOfBoundsException, IllegalArgumentException {
        return ledgerBehind(person, day).sumExpired;
    }

    public int paid(int person, int day) throws IndexOutOfBoundsException, IllegalArgumentException {
        return ledgerBehind(person, day).sumPaid;
    }

    public int borrowed(int person, int day) throws IndexOutOfBoundsException, IllegalArgumentException {
        return ledgerBehind(person, day).debt;
    }

    public int unpaid(int person, int day) throws IndexOutOfBoundsException, IllegalArgumentException {
        return ledgerBehind(person, day).unpaidDays;
    }

    public int nextExpiry(int person, int day) throws IndexOutOfBoundsException, IllegalArgumentException {
        return ledgerBehind(person, day).firstExpiry();
    }

    // ---- what the calls share

    private Person personAt(int number) {
        if (number < 0 || number >= persons.length) {
            throw new IndexOutOfBoundsException("no such person");
        }
        Person found = persons[number];
        if (found == null) {
            throw new IndexOutOfBoundsException("no such person");
        }
        return found;
    }

    private Request requestAt(int number) {
        if (number < 0 || number >= requests.length) {
            throw new IndexOutOfBoundsException("no such request");
        }
        Request found = requests[number];
        if (found == null) {
            throw new IndexOutOfBoundsException("no such request");
        }
        return found;
    }

    private Ledger ledgerBehind(int number, int day) {
        Person asked = personAt(number);
        checkDay(0, day);
        ledger.goThrough(asked, day);
        return ledger;
    }

    private static void checkDay(int earliest, int day) {
        if (day < earliest || day > LAST_DAY) {
            throw new IllegalArgumentException("day is out of range");
        }
    }

    private static void checkDays(int earliest, int first, int last) {
        if (first < earliest || last < first || last > LAST_DAY) {
            throw new IllegalArgumentException("first or last is out of range");
        }
    }

    private static void checkHours(int hours) {
        if (hours < LEAST_HOURS || hours > MOST_HOURS) {
            throw new IllegalArgumentException("hours are out of range");
        }
    }

    private static boolean isWorkingDay(int day) {
        return day % WEEK_DAYS < WEEK_WORKING_DAYS;
    }

    private static int workingDaysAheadOf(int day) {
        int inFullWeeks = day / WEEK_DAYS * WEEK_WORKING_DAYS;
        return inFullWeeks + Math.min(day % WEEK_DAYS, WEEK_WORKING_DAYS);
    }

    /** A request for leave; its days can be changed and it can be cancelled. */
    private static final class Request {
        final Person owner;
        final int kind;
        int firstDay;
        int lastDay;
        boolean isCancelled;

        Request(Person owner, int firstDay, int lastDay, boolean isHalf) {
            this.owner = owner;
            this.kind = isHalf ? ON_HALF_LEAVE : ON_LEAVE;
            this.firstDay = firstDay;
            this.lastDay = lastDay;
        }

        boolean holdsOn(int day) {
            return !isCancelled && firstDay <= day && day <= lastDay;
        }
    }

    /** A person, with all that is entered for this person. */
    private static final class Person {
        final int firstDay;
        final int right;
        final int firstHours;
        final int[] changeDays = new int[MOST_CHANGES];
        final int[] changeHours = new int[MOST_CHANGES];
        int changeCount;
        final Request[] ownRequests = new Request[MOST_REQUESTS];
        int ownRequestCount;
        final int[] spellFirsts = new int[MOST_SPELLS];
        final int[] spellLasts = new int[MOST_SPELLS];
        int ownSpellCount;
        final int[] payoutDays = new int[MOST_PAYOUTS];
        final int[] payoutPoints = new int[MOST_PAYOUTS];
        int ownPayoutCount;
        /** Kept for each day, because going through all days would else look at all requests for each. */
        final int[] leaveKinds = new int[LAST_DAY + 1];

        Person(int firstDay, int right, int firstHours) {
            this.firstDay = firstDay;
            this.right = right;
            this.firstHours = firstHours;
        }

        int hoursOn(int day) {
            int latestChange = NONE;
            int hours = firstHours;
            for (int i = 0; i < changeCount; i++) {
                if (changeDays[i] <= day && changeDays[i] > latestChange) {
                    latestChange = changeDays[i];
                    hours = changeHours[i];
                }
            }
            return hours;
        }

        /** Answers false, and enters nothing, if there is no place for a change on one more day. */
        boolean enterHours(int day, int hours) {
            int place = 0;
            while (place < changeCount && changeDays[place] != day) {
                place++;
            }
            if (place >= changeDays.length) {
                return false;
            }
            changeDays[place] = day;
            changeHours[place] = hours;
            changeCount = Math.max(changeCount, place + 1);
            return true;
        }

        void enterRequest(Request entered) {
            if (ownRequestCount < ownRequests.length) {
                ownRequests[ownRequestCount] = entered;
                ownRequestCount++;
                markLeave(entered.firstDay, entered.lastDay);
            }
        }

        void enterSpell(int first, int last) {
            if (ownSpellCount < spellFirsts.length) {
                spellFirsts[ownSpellCount] = first;
                spellLasts[ownSpellCount] = last;
                ownSpellCount++;
                markLeave(first, last);
            }
        }

        void enterPayout(int day, int points) {
            if (ownPayoutCount < payoutDays.length) {
                payoutDays[ownPayoutCount] = day;
                payoutPoints[ownPayoutCount] = points;
                ownPayoutCount++;
            }
        }

        int leaveOn(int day) {
            return day >= 0 && day < leaveKinds.length ? leaveKinds[day] : NOT_ON_LEAVE;
        }

        /** To be called for all days that an entry touches: it finds out anew what they are. */
        void markLeave(int first, int last) {
            for (int day = Math.max(first, 0); day <= last && day < leaveKinds.length; day++) {
                leaveKinds[day] = findLeave(day);
            }
        }

        private int findLeave(int day) {
            if (!isWorkingDay(day) || isSickOn(day)) {
                return NOT_ON_LEAVE;
            }
            int kind = NOT_ON_LEAVE;
            for (int i = 0; i < ownRequestCount; i++) {
                Request own = ownRequests[i];
                if (own != null && own.holdsOn(day)) {
                    kind = Math.max(kind, own.kind);
                }
            }
            return kind;
        }

        private boolean isSickOn(int day) {
            for (int i = 0; i < ownSpellCount; i++) {
                if (spellFirsts[i] <= day && day <= spellLasts[i]) {
                    return true;
                }
            }
            return false;
        }
    }

    /** What happened to one person, from the first day on up to and with some day. */
    private static final class Ledger {
        /** Lots stand in the order in which they are earned: what is earned later never expires earlier. */
        final int[] lotPoints = new int[MOST_LOTS];
        final int[] lotExpiries = new int[MOST_LOTS];
        int lotCount;
        /** The first lot that has not expired; the lots ahead of it are gone. */
        int oldestLot;
        int nextPayout;
        int debt;
        int sumEarned;
        int sumTaken;
        int sumExpired;
        int sumPaid;
        int unpaidDays;

        void goThrough(Person person, int lastDay) {
            clear();
            for (int day = person.firstDay; day <= lastDay; day++) {
                if (isDayOfEarning(person, day)) {
                    earn(pointsOfMonth(person, day), expiryOf(day));
                }
                expireOn(day);
                take(person.leaveOn(day));
                payOn(person, day);
            }
        }

        int pointsInLots() {
            int points = 0;
            for (int lot = oldestLot; lot < lotCount; lot++) {
                points += lotPoints[lot];
            }
            return points;
        }

        int firstExpiry() {
            for (int lot = oldestLot; lot < lotCount; lot++) {
                if (lotPoints[lot] > 0) {
                    return lotExpiries[lot];
                }
            }
            return NONE;
        }

        private void clear() {
            lotCount = 0;
            oldestLot = 0;
            nextPayout = 0;
            debt = 0;
            sumEarned = 0;
            sumTaken = 0;
            sumExpired = 0;
            sumPaid = 0;
            unpaidDays = 0;
        }

        private static boolean isDayOfEarning(Person person, int day) {
            return day % MONTH_DAYS == 0 && day - MONTH_DAYS >= person.firstDay;
        }

        private static int pointsOfMonth(Person person, int day) {
            int serviceYears = (day - person.firstDay) / YEAR_DAYS;
            int bonus = Math.min(serviceYears / YEARS_FOR_BONUS * BONUS, MOST_BONUS);
            return MONTHLY_FACTOR * (person.right + bonus) * person.hoursOn(day - 1);
        }

        private static int expiryOf(int dayOfEarning) {
            int yearOfMonth = (dayOfEarning - 1) / YEAR_DAYS;
            return (yearOfMonth + 1) * YEAR_DAYS + EXPIRY_DAY_OF_YEAR;
        }

        private void earn(int points, int expiry) {
            int paidBack = Math.min(points, debt);
            debt -= paidBack;
            sumEarned += points;
            if (lotCount < lotPoints.length) {
                lotPoints[lotCount] = points - paidBack;
                lotExpiries[lotCount] = expiry;
                lotCount++;
            }
        }

        private void expireOn(int day) {
            while (oldestLot < lotCount && lotExpiries[oldestLot] <= day) {
                sumExpired += lotPoints[oldestLot];
                oldestLot++;
            }
        }

        private void take(int leaveKind) {
            if (leaveKind == NOT_ON_LEAVE) {
                return;
            }
            int points = leaveKind == ON_LEAVE ? POINTS_OF_LEAVE : POINTS_OF_HALF_LEAVE;
            int lacking = Math.max(points - pointsInLots(), 0);
            if (debt + lacking > MOST_BORROWED) {
                unpaidDays++;
                return;
            }
            drawFromLots(points);
            debt += lacking;
            sumTaken += points;
        }

        /** Payouts stand in the order of their days, because each was entered for the day that was today. */
        private void payOn(Person person, int day) {
            while (nextPayout < person.ownPayoutCount && person.payoutDays[nextPayout] <= day) {
                sumPaid += drawFromLots(person.payoutPoints[nextPayout]);
                nextPayout++;
            }
        }

        /** Answers how many of the points the lots had. */
        private int drawFromLots(int points) {
            int missing = points;
            for (int lot = oldestLot; lot < lotCount && missing > 0; lot++) {
                int drawn = Math.min(missing, lotPoints[lot]);
                lotPoints[lot] -= drawn;
                missing -= drawn;
            }
            return points - missing;
        }
    }
}
