import java.util.ArrayList;
import java.util.Arrays;
import java.util.Comparator;
import java.util.List;
import java.util.Map;
import java.util.TreeMap;
import java.util.function.Supplier;

/**
 * Long runs of calls, right and wrong ones, each answer compared with that of a plain model which keeps
 * what was entered and nothing else, and follows the words of the document for each question.
 */
public final class ModelTest {
    private static final int RUNS = 300;
    private static final int CALLS = 512;
    private static final String[] ASKED = {"balance", "balanceBySums", "earned", "taken", "expired", "paid",
        "borrowed", "unpaid", "nextExpiry"};

    private long seed;
    private Leavebank book;
    private Model model;
    /** So that a run reaches the limits of one kind of call, or those of one person. */
    private final int favourite;
    private final int people;

    public static void main(String[] args) {
        for (int run = 0; run < RUNS; run++) {
            String wrong = new ModelTest(run).firstWrong();
            if (wrong != null) {
                System.out.println("run " + run + ": " + wrong);
                System.exit(1);
            }
        }
    }

    private ModelTest(int run) {
        seed = run * 7919L + 17;
        book = new Leavebank();
        model = new Model();
        favourite = below(22);
        people = 1 + below(10);
    }

    private int below(int bound) {
        seed = seed * 6364136223846793005L + 1442695040888963407L;
        return (int) Math.floorMod(seed >>> 33, (long) bound);
    }

    private String firstWrong() {
        boolean isLong = below(3) == 0;
        int spread = below(4) == 0 ? 3600 : 200;
        for (int call = 0; call < CALLS; call++) {
            int[] row = row(isLong, spread);
            if (row[0] == 0 && model.persons.size() >= people) {
                continue;
            }
            String due = answer(model, row);
            String got = answer(book, row);
            if (!due.equals(got)) {
                return "call " + call + " " + Arrays.toString(row) + " answered " + got + ", due is " + due;
            }
        }
        return null;
    }

    private int anyDay(int spread) {
        switch (below(24)) {
            case 0: return -1 - below(2);
            case 1: return 3599 + below(4);
            case 2: return (below(120) + 1) * 30 - below(2);
            case 3: return (below(9) + 1) * 360 + 89 + below(2);
            default: return Math.max(0, Math.min(3600, model.today + below(2 * spread) - spread));
        }
    }

    private int anyNumber(int count) {
        return below(25) == 0 ? below(50) - 2 : below(Math.max(count, 1));
    }

    /** A call: what is called, then its arguments. */
    private int[] row(boolean isLong, int spread) {
        int person = anyNumber(model.persons.size());
        int first = anyDay(spread);
        int length = below(6) == 0 ? below(spread) : below(12);
        int last = first + (below(30) == 0 ? -1 : length);
        switch (below(4) == 0 ? favourite : below(22)) {
            case 0: return new int[] {0, 19 + below(below(9) == 0 ? 70 : 62), below(12)};
            case 1: return new int[] {1, person, first, below(12)};
            case 2: return new int[] {2, person, first, last, below(2)};
            case 3: return new int[] {3, anyNumber(model.requests.size()), first, last};
            case 4: return new int[] {below(3) == 0 ? 4 : 3, anyNumber(model.requests.size()), first, last};
            case 5: return new int[] {5, person, first, last};
            case 6: return new int[] {6, person, below(4) == 0 ? below(20003) - 1 : below(900)};
            case 7: return new int[] {7, isLong ? below(403) - 1 : below(40)};
            case 8: return new int[] {8 + below(2)};
            case 9: return new int[] {10, first, last};
            case 10: return new int[] {11, person, first};
            case 11: return new int[] {12, person, first};
            default: return new int[] {13 + below(ASKED.length), person, anyDay(spread)};
        }
    }

    private static String answer(Model x, int[] row) {
        try {
            return String.valueOf(called(x, row));
        } catch (RuntimeException e) {
            return e.getClass().getSimpleName();
        }
    }

    private static int called(Model x, int[] row) {
        switch (row[0]) {
            case 0: return x.addPerson(row[1], row[2]);
            case 1: return x.setHours(row[1], row[2], row[3]);
            case 2: return x.request(row[1], row[2], row[3], row[4] == 1);
            case 3: return x.change(row[1], row[2], row[3]);
            case 4: return x.cancel(row[1]);
            case 5: return x.sick(row[1], row[2], row[3]);
            case 6: return x.payOut(row[1], row[2]);
            case 7: return x.pass(row[1]);
            case 8: return x.today;
            case 9: return x.persons.size();
            case 10: return x.workingDays(row[1], row[2]);
            case 11: return x.hours(row[1], row[2]);
            case 12: return x.onLeave(row[1], row[2]);
            default: return x.asked(ASKED[row[0] - 13], row[1], row[2]);
        }
    }

    private static String answer(Leavebank x, int[] row) {
        try {
            return String.valueOf(called(x, row));
        } catch (RuntimeException e) {
            return e.getClass().getSimpleName();
        }
    }

    private static int called(Leavebank x, int[] row) {
        switch (row[0]) {
            case 0: return x.addPerson(row[1], row[2]);
            case 1: return x.setHours(row[1], row[2], row[3]);
            case 2: return x.request(row[1], row[2], row[3], row[4] == 1);
            case 3: return x.change(row[1], row[2], row[3]);
            case 4: x.cancel(row[1]); return 0;
            case 5: return x.sick(row[1], row[2], row[3]);
            case 6: return x.payOut(row[1], row[2]);
            case 7: return x.pass(row[1]);
            case 8: return x.today();
            case 9: return x.people();
            case 10: return x.workingDays(row[1], row[2]);
            case 11: return x.hours(row[1], row[2]);
            case 12: return x.onLeave(row[1], row[2]);
            case 13: return x.balance(row[1], row[2]);
            case 14: return x.balanceBySums(row[1], row[2]);
            case 15: return x.earned(row[1], row[2]);
            case 16: return x.taken(row[1], row[2]);
            case 17: return x.expired(row[1], row[2]);
            case 18: return x.paid(row[1], row[2]);
            case 19: return x.borrowed(row[1], row[2]);
            case 20: return x.unpaid(row[1], row[2]);
            default: return x.nextExpiry(row[1], row[2]);
        }
    }

    private static final class Lot {
        int points;
        int expires;
        int earnedOn;
    }

    private static final class Model {
        int today = 0;
        /** first day, right, hours */
        final List<int[]> persons = new ArrayList<>();
        final List<TreeMap<Integer, Integer>> hours = new ArrayList<>();
        /** person, first, last, 1 if half, 1 if cancelled */
        final List<int[]> requests = new ArrayList<>();
        final List<int[]> spells = new ArrayList<>();
        /** person, day, points */
        final List<int[]> payouts = new ArrayList<>();

        private static void need(boolean isRight, Supplier<RuntimeException> otherwise) {
            if (!isRight) {
                throw otherwise.get();
            }
        }

        private static boolean isIn(int x, int least, int most) {
            return least <= x && x <= most;
        }

        private int firstDayOf(int person) {
            need(isIn(person, 0, persons.size() - 1), IndexOutOfBoundsException::new);
            return persons.get(person)[0];
        }

        private static void needDays(int earliest, int first, int last) {
            need(isIn(first, earliest, 3600) && isIn(last, first, 3600), IllegalArgumentException::new);
        }

        int addPerson(int right, int h) {
            need(isIn(right, 20, 80) && isIn(h, 1, 10), IllegalArgumentException::new);
            need(persons.size() < 8, IllegalStateException::new);
            persons.add(new int[] {today, right, h});
            hours.add(new TreeMap<>(Map.of(today, h)));
            changed.add(new TreeMap<>());
            return persons.size() - 1;
        }

        /** The days for which changes are entered, for each person. */
        final List<TreeMap<Integer, Integer>> changed = new ArrayList<>();

        int setHours(int person, int day, int h) {
            needDays(firstDayOf(person), day, day);
            need(isIn(h, 1, 10), IllegalArgumentException::new);
            need(changed.get(person).containsKey(day) || changed.get(person).size() < 10, IllegalStateException::new);
            int before = hours.get(person).floorEntry(day).getValue();
            hours.get(person).put(day, h);
            changed.get(person).put(day, h);
            return before;
        }

        int request(int person, int first, int last, boolean isHalf) {
            needDays(firstDayOf(person), first, last);
            need(requests.size() < 40, IllegalStateException::new);
            requests.add(new int[] {person, first, last, isHalf ? 1 : 0, 0});
            return requests.size() - 1;
        }

        int change(int request, int first, int last) {
            need(isIn(request, 0, requests.size() - 1), IndexOutOfBoundsException::new);
            int[] r = requests.get(request);
            needDays(firstDayOf(r[0]), first, last);
            need(r[4] == 0, IllegalStateException::new);
            int days = r[2] - r[1] + 1;
            r[1] = first;
            r[2] = last;
            return days;
        }

        int cancel(int request) {
            need(isIn(request, 0, requests.size() - 1), IndexOutOfBoundsException::new);
            need(requests.get(request)[4] == 0, IllegalStateException::new);
            requests.get(request)[4] = 1;
            return 0;
        }

        int sick(int person, int first, int last) {
            needDays(firstDayOf(person), first, last);
            need(spells.size() < 30, IllegalStateException::new);
            spells.add(new int[] {person, first, last});
            return spells.size();
        }

        int payOut(int person, int points) {
            firstDayOf(person);
            need(isIn(points, 1, 20000), IllegalArgumentException::new);
            need(payouts.size() < 20, IllegalStateException::new);
            need(asked("lots", person, today) >= points, IllegalStateException::new);
            payouts.add(new int[] {person, today, points});
            return payouts.size() - 1;
        }

        int pass(int days) {
            need(isIn(days, 1, 400), IllegalArgumentException::new);
            need(today + days <= 3600, IllegalStateException::new);
            today += days;
            return today;
        }

        int workingDays(int first, int last) {
            needDays(0, first, last);
            int count = 0;
            for (int day = first; day <= last; day++) {
                count += day % 7 < 5 ? 1 : 0;
            }
            return count;
        }

        int hours(int person, int day) {
            needDays(firstDayOf(person), day, day);
            return hours.get(person).floorEntry(day).getValue();
        }

        int onLeave(int person, int day) {
            firstDayOf(person);
            needDays(0, day, day);
            return day % 7 >= 5 || isSick(person, day) ? 0 : leaveAsked(person, day);
        }

        private boolean isSick(int person, int day) {
            for (int[] s : spells) {
                if (s[0] == person && s[1] <= day && day <= s[2]) {
                    return true;
                }
            }
            return false;
        }

        private int leaveAsked(int person, int day) {
            int halves = 0;
            int all = 0;
            for (int[] r : requests) {
                if (r[0] == person && r[4] == 0 && r[1] <= day && day <= r[2]) {
                    all++;
                    halves += r[3];
                }
            }
            return all == 0 ? 0 : all == halves ? 1 : 2;
        }

        private final List<Lot> lots = new ArrayList<>();
        private final Map<String, Integer> sums = new TreeMap<>();

        int asked(String what, int person, int day) {
            int first = firstDayOf(person);
            needDays(0, day, day);
            lots.clear();
            sums.clear();
            for (int d = first; d <= day; d++) {
                happen(person, d);
            }
            int inLots = lots.stream().mapToInt(lot -> lot.points).sum();
            switch (what) {
                case "lots": return inLots;
                case "balance": return inLots - sum("borrowed");
                case "balanceBySums": return sum("earned") - sum("taken") - sum("expired") - sum("paid");
                case "nextExpiry": return lots.stream().filter(lot -> lot.points > 0).mapToInt(lot -> lot.expires)
                        .min().orElse(-1);
                default: return sum(what);
            }
        }

        private int sum(String name) {
            return sums.getOrDefault(name, 0);
        }

        private void add(String name, int points) {
            sums.merge(name, points, Integer::sum);
        }

        private void happen(int person, int d) {
            int[] p = persons.get(person);
            if (d % 30 == 0 && p[0] <= d - 30) {
                int years = (d - p[0]) / 360;
                int points = 2 * (p[1] + Math.min(10, years / 3 * 2)) * hours(person, d - 1);
                add("earned", points);
                int back = Math.min(points, sum("borrowed"));
                add("borrowed", -back);
                Lot lot = new Lot();
                lot.points = points - back;
                lot.earnedOn = d;
                lot.expires = ((d - 1) / 360 + 1) * 360 + 90;
                lots.add(lot);
            }
            for (int i = lots.size() - 1; i >= 0; i--) {
                if (lots.get(i).expires == d) {
                    add("expired", lots.remove(i).points);
                }
            }
            int leave = requests.isEmpty() ? 0 : onLeave(person, d);
            if (leave > 0) {
                int need = 240 * leave;
                int has = lots.stream().mapToInt(lot -> lot.points).sum();
                int lent = has < need ? need - has : 0;
                if (sum("borrowed") + lent > 2400) {
                    add("unpaid", 1);
                } else {
                    use(need - lent);
                    add("borrowed", lent);
                    add("taken", need);
                }
            }
            for (int[] payout : payouts) {
                if (payout[0] == person && payout[1] == d) {
                    int has = lots.stream().mapToInt(lot -> lot.points).sum();
                    use(Math.min(has, payout[2]));
                    add("paid", Math.min(has, payout[2]));
                }
            }
        }

        private void use(int points) {
            lots.sort(Comparator.<Lot>comparingInt(lot -> lot.expires).thenComparingInt(lot -> lot.earnedOn));
            int left = points;
            for (Lot lot : lots) {
                int used = Math.min(left, lot.points);
                lot.points -= used;
                left -= used;
            }
        }
    }
}
