import java.lang.reflect.InvocationTargetException;
import java.lang.reflect.Method;
import java.util.ArrayList;
import java.util.Comparator;
import java.util.List;
import java.util.function.Function;
import java.util.function.Supplier;

/**
 * What the boundary and the sentence tests share. Each of their methods whose name begins with
 * "promise" or "terms" is the test of one case, named after the promise, or the document's terms,
 * and the case; it is found by its name, so that none can be left out of a list.
 */
abstract class Cases {

    static final Class<?> NO_SUCH = IndexOutOfBoundsException.class;
    static final Class<?> OUT_OF_RANGE = IllegalArgumentException.class;
    static final Class<?> NOT_NOW = IllegalStateException.class;
    static final int NONE = -1;
    static final int ALL_HOURS = 0xFFFFFF;

    private static int wrong = 0;
    private static String test = "";
    private static int check = 0;

    interface Call {
        long on(SkyLoom x);
    }

    /** A call one of whose arguments stands at a boundary. */
    interface CallWith {
        long on(SkyLoom x, int argument);
    }

    static void run(Class<?> cases) throws IllegalAccessException {
        List<Method> tests = testsOf(cases);
        for (Method one : tests) {
            test = one.getName();
            check = 0;
            try {
                one.invoke(null);
            } catch (InvocationTargetException thrown) {
                report("a call threw " + thrown.getCause());
            }
        }
        System.out.println(cases.getName() + ": " + tests.size() + " cases, " + wrong
                + " wrong answers");
        System.exit(wrong == 0 && !tests.isEmpty() ? 0 : 1);
    }

    private static List<Method> testsOf(Class<?> cases) {
        List<Method> tests = new ArrayList<>();
        for (Method method : cases.getDeclaredMethods()) {
            if (method.getName().matches("(promise\\d\\d|terms)_.*")) {
                tests.add(method);
            }
        }
        tests.sort(Comparator.comparing(Method::getName));
        return tests;
    }

    // ---- objects that the tests begin with

    /** Stars at the places that are given, across and up in turn. */
    static SkyLoom sky(int... places) {
        SkyLoom x = new SkyLoom();
        for (int at = 0; at + 1 < places.length; at += 2) {
            x.addStar(places[at], places[at + 1]);
        }
        return x;
    }

    /** Stars in 0, 0 and figures without lines. */
    static SkyLoom web(int stars, int figures) {
        SkyLoom x = sky(new int[2 * stars]);
        for (int figure = 0; figure < figures; figure++) {
            x.addFigure();
        }
        return x;
    }

    /** A figure whose line n joins the stars 2n and 2n + 1, all in 0, 0. */
    static SkyLoom pairs(int lines) {
        SkyLoom x = web(2 * lines, 1);
        for (int line = 0; line < lines; line++) {
            x.draw(0, 2 * line, 2 * line + 1);
        }
        return x;
    }

    /** A figure whose line n joins the stars n and n + 1, with stars in 0, 0. */
    static SkyLoom path(int lines, int stars) {
        SkyLoom x = web(stars, 1);
        for (int line = 0; line < lines; line++) {
            x.draw(0, line, line + 1);
        }
        return x;
    }

    /** Two figures of 10 lines, of the stars 0 to 10 and 11 to 21, all in 0, 0. */
    static SkyLoom twoFull() {
        SkyLoom x = path(10, 22);
        x.addFigure();
        for (int star = 11; star < 21; star++) {
            x.draw(1, star, star + 1);
        }
        return x;
    }

    /** The last figure there can be has 10 lines, of the stars 0 to 10. */
    static SkyLoom lastFull() {
        SkyLoom x = web(11, 8);
        for (int star = 0; star < 10; star++) {
            x.draw(7, star, star + 1);
        }
        return x;
    }

    /** The last figure there can be has a line between two stars in 0, 0; the others have none. */
    static SkyLoom lastWithALine() {
        SkyLoom x = web(2, 8);
        x.draw(7, 0, 1);
        return x;
    }

    /** Figure 0 keeps the line from 1 to 2, its line from 0 to 1 is erased; figure 1 has none. */
    static SkyLoom pathWithOneErased() {
        SkyLoom x = path(2, 4);
        x.addFigure();
        x.erase(0, 0);
        return x;
    }

    static SkyLoom fullAgain() {
        SkyLoom x = path(10, 13);
        x.erase(0, 0);
        x.undo();
        return x;
    }

    /** A figure of one line between two places. */
    static SkyLoom figureAt(int... places) {
        SkyLoom x = sky(places);
        x.addFigure();
        x.draw(0, 0, 1);
        return x;
    }

    /** A figure that is up, at latitude 0, at one turn of the sky alone. */
    static SkyLoom window(int turn) {
        return figureAt((turn + 271) % 360, 0, (turn + 89) % 360, 0);
    }

    static SkyLoom named(SkyLoom x) {
        x.vote(0, 0, 2);
        return x;
    }

    /** A line between two stars in 0, 0, named 2, and shows at latitude 0, day 0, hour 0. */
    static SkyLoom shows(int shows) {
        SkyLoom x = named(pairs(1));
        for (int show = 0; show < shows; show++) {
            x.plan(0, 0, 0, 0);
        }
        return x;
    }

    /** All 12 shows are wrong: the figure is up, but twelve hours later. */
    static SkyLoom wrongShows() {
        SkyLoom x = shows(12);
        x.correct(0, 180, 0);
        x.correct(1, 180, 0);
        return x;
    }

    /** Figure 0 has a vote for the name 2, which figure 1 has with two votes. */
    static SkyLoom nameElsewhere() {
        SkyLoom x = shows(0);
        x.addFigure();
        x.vote(1, 1, 2);
        x.vote(2, 1, 2);
        return x;
    }

    /** A star that was in 0, 0 and then went across, one each time. */
    static SkyLoom corrected(int times) {
        SkyLoom x = web(1, 1);
        for (int across = 1; across <= times; across++) {
            x.correct(0, across, 0);
        }
        return x;
    }

    static SkyLoom undone(SkyLoom x, int times) {
        for (int time = 0; time < times; time++) {
            x.undo();
        }
        return x;
    }

    /** Something of everything, and room for more: 7 stars, 3 figures, 2 shows. */
    static SkyLoom lively() {
        SkyLoom x = sky(0, 0, 10, 10, 20, 0, 5, 20, 15, -20, 200, 0, 210, 0);
        for (int figure = 0; figure < 3; figure++) {
            x.addFigure();
        }
        x.draw(0, 0, 1);
        x.draw(0, 1, 2);
        x.draw(0, 2, 0);
        x.draw(1, 3, 4);
        x.vote(0, 0, 4);
        x.vote(1, 0, 4);
        x.vote(2, 0, 0);
        x.vote(0, 1, 4);
        x.vote(1, 1, 9);
        x.vote(5, 2, 0);
        x.plan(0, 0, 0, 0);
        x.plan(1, 20, 364, 1);
        x.correct(4, 15, -80);
        x.erase(0, 1);
        return x;
    }

    /** No room for more: 24 stars, 8 figures, 10 lines in figure 0, 12 shows, 30 changes. */
    static SkyLoom crowded() {
        SkyLoom x = web(24, 8);
        for (int line = 0; line < 10; line++) {
            x.draw(0, line, line + 1);
        }
        for (int figure = 1; figure < 7; figure++) {
            x.draw(figure, 9 + 2 * figure, 10 + 2 * figure);
        }
        for (int figure = 0; figure < 8; figure++) {
            x.vote(figure % 6, figure, 9 - figure);
        }
        for (int show = 0; show < 12; show++) {
            x.plan(show / 2, 5 * show, 5 * show, show / 4);
        }
        for (int star = 0; star < 24; star++) {
            x.correct(star, 14 * star, 90 - 7 * star);
        }
        return x;
    }

    // ---- what the tests share

    /** The first number that is too small, and the smallest that there is. */
    static int[] downFrom(int first) {
        return new int[] {first, Integer.MIN_VALUE};
    }

    static int[] upFrom(int first) {
        return new int[] {first, Integer.MAX_VALUE};
    }

    static long bit(boolean answer) {
        return answer ? 1 : 0;
    }

    static long height(int across, int up, int latitude, int day, int hour) {
        return sky(across, up).height(0, latitude, day, hour);
    }

    /** How often two lines cross, of two figures and, the same, of one. */
    static long crossing(int... places) {
        SkyLoom x = sky(places);
        x.addFigure();
        x.addFigure();
        x.draw(0, 0, 1);
        x.draw(1, 2, 3);
        long between = x.crossings(0, 1);
        due(between, x.crossings(1, 0));
        x.undo();
        x.draw(0, 3, 2);
        due(between, x.crossings(0, 0));
        return between;
    }

    /** Which of the lines of pairs() there are, in the order of their numbers. */
    static String pairsInOrder(SkyLoom x) {
        StringBuilder order = new StringBuilder();
        int lines = x.lines(0);
        for (int line = 0; line < lines; line++) {
            boolean[] had = starsOf(x, 0);
            x.erase(0, 0);
            order.append(line == 0 ? "" : " ").append(pairThatLeft(had, starsOf(x, 0)));
        }
        return order.toString();
    }

    private static String pairThatLeft(boolean[] had, boolean[] has) {
        for (int star = 0; star + 1 < had.length; star += 2) {
            if (had[star] && had[star + 1] && !has[star] && !has[star + 1]) {
                return String.valueOf(star / 2);
            }
        }
        return "none";
    }

    private static boolean[] starsOf(SkyLoom x, int figure) {
        boolean[] of = new boolean[x.stars()];
        for (int star = 0; star < of.length; star++) {
            of[star] = x.figureOf(star) == figure;
        }
        return of;
    }

    static void due(long want, long got) {
        same(String.valueOf(want), String.valueOf(got));
    }

    static void same(String want, String got) {
        check++;
        if (!want.equals(got)) {
            report("answered " + got + ", due is " + want);
        }
    }

    /** What a call answers: a number, or the name of what it throws. */
    static String answer(SkyLoom x, Call call) {
        try {
            return String.valueOf(call.on(x));
        } catch (RuntimeException thrown) {
            return thrown.getClass().getSimpleName();
        }
    }

    static void refused(Class<?> want, Supplier<SkyLoom> made, int[] arguments,
            CallWith call) {
        for (int argument : arguments) {
            refused(want, made, x -> call.on(x, argument));
        }
    }

    /** The call throws, and the object then answers all as one on which it was not made. */
    static void refused(Class<?> want, Supplier<SkyLoom> made, Call call) {
        same(want.getSimpleName(), answer(made.get(), call));
        List<String> before = everything(made, x -> 0);
        List<String> after = everything(made, call);
        for (int view = 0; view < before.size(); view++) {
            same(before.get(view), after.get(view));
        }
    }

    /** Each view takes an object of its own: some change it, and 512 calls are not enough. */
    private static List<String> everything(Supplier<SkyLoom> made, Call first) {
        List<Function<SkyLoom, String>> views = new ArrayList<>(List.of(
                Cases::answers, Cases::changes, Cases::ballots));
        for (int figure = 0; figure < 8; figure++) {
            int shown = figure;
            views.add(x -> linesOf(x, shown));
        }
        List<String> all = new ArrayList<>();
        for (Function<SkyLoom, String> view : views) {
            SkyLoom x = made.get();
            answer(x, first);
            all.add(view.apply(x));
        }
        return all;
    }

    /** The answers of the calls that change nothing. */
    static String answers(SkyLoom x) {
        StringBuilder all = new StringBuilder("stars");
        for (int star = 0; star < x.stars(); star++) {
            all.append(' ').append(x.placeOf(star)).append(' ').append(x.figureOf(star));
        }
        all.append(" figures");
        for (int figure = 0; figure < x.figures(); figure++) {
            all.append(' ').append(x.lines(figure)).append(' ').append(x.nameOf(figure));
            all.append(' ').append(x.hours(figure, 20, 0)).append(" votes");
            for (int name = 0; name <= 9; name++) {
                all.append(' ').append(x.votes(figure, name));
            }
        }
        all.append(" shows ").append(x.wrong());
        String show = "";
        for (int number = 0; !show.equals("IndexOutOfBoundsException") && number < 20; number++) {
            int asked = number;
            show = answer(x, y -> bit(y.isWrong(asked)));
            all.append(' ').append(show);
        }
        return all.toString();
    }

    /** The latest changes, undone one by one, and what is there when all are. */
    private static String changes(SkyLoom x) {
        StringBuilder all = new StringBuilder("changes");
        String more = "";
        for (int time = 0; !more.equals("IllegalStateException") && time < 40; time++) {
            more = answer(x, y -> y.undo());
            all.append(' ').append(more);
        }
        return all.append(' ').append(answers(x)).toString();
    }

    /** The votes of the voters, which are answered when they are taken back. */
    private static String ballots(SkyLoom x) {
        StringBuilder all = new StringBuilder("ballots");
        for (int figure = 0; figure < x.figures(); figure++) {
            for (int voter = 0; voter <= 5; voter++) {
                all.append(' ').append(x.vote(voter, figure, NONE));
            }
        }
        return all.toString();
    }

    /** The lines of a figure in their order, known by the stars that they leave when erased. */
    static String linesOf(SkyLoom x, int figure) {
        StringBuilder all = new StringBuilder("lines of " + figure);
        int stars = x.stars();
        int lines = figure < x.figures() ? x.lines(figure) : 0;
        for (int line = 0; line < lines; line++) {
            x.erase(figure, 0);
            all.append(" -");
            for (int star = 0; star < stars; star++) {
                if (x.figureOf(star) == figure) {
                    all.append(' ').append(star);
                }
            }
        }
        return all.toString();
    }

    private static void report(String what) {
        wrong++;
        System.out.println(test + ", check " + check + ": " + what);
    }
}
