import java.lang.reflect.InvocationTargetException;
import java.lang.reflect.Method;
import java.lang.reflect.Modifier;
import java.util.ArrayList;
import java.util.Arrays;
import java.util.Comparator;
import java.util.List;
import java.util.function.Consumer;
import java.util.function.IntSupplier;
import java.util.function.Supplier;

/** What the tests of the document's sentences share. */
final class Check {
    static final Class<?> INDEX = IndexOutOfBoundsException.class;
    static final Class<?> ARGUMENT = IllegalArgumentException.class;
    static final Class<?> STATE = IllegalStateException.class;

    /** A call that asks something of a person on a day. */
    interface Question {
        int ask(Leavebank book, int person, int day);
    }

    private static final Question[] QUESTIONS = {Leavebank::hours, Leavebank::onLeave, Leavebank::balance,
        Leavebank::balanceBySums, Leavebank::earned, Leavebank::taken, Leavebank::expired, Leavebank::paid,
        Leavebank::borrowed, Leavebank::unpaid, Leavebank::nextExpiry};
    private static final int[] ASKED_DAYS = {0, 1, 4, 29, 30, 45, 50, 59, 60, 63, 80, 99, 100, 101, 110, 120, 130,
        140, 150, 160, 170, 180, 190, 200, 210, 360, 405, 449, 450, 500, 810, 3599, 3600};
    /** With the calls that make a book, this stays within the 512 for which an object is used. */
    private static final int QUESTIONS_TO_A_BOOK = 250;

    private static String running = "";
    private static int wrong = 0;

    private Check() {
    }

    /** Each static method without arguments and without an answer is a test. */
    static void runTestsOf(Class<?> tests) {
        Method[] methods = tests.getDeclaredMethods();
        Arrays.sort(methods, Comparator.comparing(Method::getName));
        int count = 0;
        for (Method method : methods) {
            if (isTest(method)) {
                runTest(method);
                count++;
            }
        }
        if (wrong > 0 || count == 0) {
            System.out.println(wrong + " wrong in " + count + " tests");
            System.exit(1);
        }
    }

    private static boolean isTest(Method method) {
        return Modifier.isStatic(method.getModifiers()) && method.getParameterCount() == 0
                && method.getReturnType() == void.class && !method.isSynthetic();
    }

    private static void runTest(Method method) {
        running = method.getDeclaringClass().getName() + "." + method.getName();
        try {
            method.invoke(null);
        } catch (InvocationTargetException e) {
            complain("threw " + e.getCause());
        } catch (IllegalAccessException e) {
            complain("can't be called; a test is not private");
        }
    }

    static void due(int got, int want) {
        if (got != want) {
            complain("answered " + got + ", due is " + want);
        }
    }

    /** That the call throws this, and that such a book goes on as one on which it was never called. */
    static void refused(Supplier<Leavebank> recipe, Class<?> want, Consumer<Leavebank> call) {
        Supplier<Leavebank> afterCall = () -> {
            Leavebank book = recipe.get();
            outcome(book, call);
            return book;
        };
        String got = outcome(recipe.get(), call);
        if (!got.equals(want.getSimpleName())) {
            complain("gave " + got + ", due is " + want.getSimpleName());
        }
        same(afterCall, recipe);
    }

    /** That the books of two recipes can't be told from each other. */
    static void same(Supplier<Leavebank> one, Supplier<Leavebank> other) {
        List<String> got = allAnswers(one);
        List<String> want = allAnswers(other);
        for (int i = 0; i < Math.max(got.size(), want.size()); i++) {
            String left = i < got.size() ? got.get(i) : "nothing";
            String right = i < want.size() ? want.get(i) : "nothing";
            if (!left.equals(right)) {
                complain("the book has changed: " + left + ", due is " + right);
                return;
            }
        }
    }

    private static List<String> allAnswers(Supplier<Leavebank> recipe) {
        List<String> answers = new ArrayList<>();
        Leavebank book = recipe.get();
        answers.add("today " + book.today() + ", people " + book.people());
        int people = book.people();
        int asked = 0;
        for (int person = 0; person < people; person++) {
            for (int day : ASKED_DAYS) {
                for (int q = 0; q < QUESTIONS.length; q++) {
                    if (asked % QUESTIONS_TO_A_BOOK == 0) {
                        book = recipe.get();
                    }
                    asked++;
                    answers.add("question " + q + " of " + person + " on " + day + ": "
                            + answer(QUESTIONS[q], book, person, day));
                }
            }
        }
        answers.addAll(answersOfEntries(recipe.get()));
        return answers;
    }

    /** What is counted inside a book shows only when it is filled up. */
    private static List<String> answersOfEntries(Leavebank book) {
        List<String> answers = new ArrayList<>();
        for (int n = 0; n <= 40; n++) {
            int number = n;
            answers.add("change " + number + ": " + outcome(() -> book.change(number, 3600, 3600)));
        }
        for (int i = 0; i < 8 * 11; i++) {
            int person = i / 11;
            int day = 3589 + i % 11;
            answers.add("setHours " + person + " " + day + ": " + outcome(() -> book.setHours(person, day, 5)));
        }
        repeat(answers, "request", 41, () -> book.request(0, 3600, 3600, true));
        repeat(answers, "sick", 31, () -> book.sick(0, 3600, 3600));
        repeat(answers, "payOut", 21, () -> book.payOut(0, 1));
        repeat(answers, "addPerson", 9, () -> book.addPerson(40, 10));
        repeat(answers, "pass", 2, () -> book.pass(1));
        return answers;
    }

    private static void repeat(List<String> answers, String what, int times, IntSupplier call) {
        for (int i = 0; i < times; i++) {
            answers.add(what + " once more, " + i + ": " + outcome(call));
        }
    }

    private static String answer(Question question, Leavebank book, int person, int day) {
        return outcome(() -> question.ask(book, person, day));
    }

    private static String outcome(Leavebank book, Consumer<Leavebank> call) {
        return outcome(() -> {
            call.accept(book);
            return 0;
        });
    }

    private static String outcome(IntSupplier call) {
        try {
            return "answer " + call.getAsInt();
        } catch (RuntimeException e) {
            return e.getClass().getSimpleName();
        }
    }

    private static void complain(String what) {
        wrong++;
        System.out.println(running + placeInTest() + ": " + what);
    }

    private static String placeInTest() {
        return StackWalker.getInstance().walk(frames -> frames
                .filter(frame -> running.equals(frame.getClassName() + "." + frame.getMethodName()))
                .map(frame -> ", line " + frame.getLineNumber())
                .findFirst().orElse(""));
    }
}
