import java.math.BigDecimal;
import java.math.RoundingMode;
import java.util.ArrayList;
import java.util.Arrays;
import java.util.HashSet;
import java.util.List;
import java.util.Set;

/**
 * Runs of 512 calls, drawn from a seed that is always the same, on a SkyLoom and on a second
 * writing of the document that goes other ways: it undoes by whole snapshots, puts the names in
 * order by sorting, finds crossings by shadows on axes and divides with BigDecimal.
 */
public final class ModelTests {

    private static final int RUNS = 1500;
    private static final int CALLS = 512;
    private static final int KINDS = 24;

    /** What a run prefers to call, besides all calls alike. */
    private static final int[][] FAVOURITES = {
        {}, {3, 3, 3, 3, 3, 3, 3, 3}, {1, 3, 3, 3, 3, 4, 5, 11, 11}, {3, 3, 3, 12, 21, 21, 1, 22, 23},
        {12, 12, 12, 12, 15, 15}, {0, 0, 5, 5, 1, 3},
    };

    /** In how many runs stars, figures, lines of a figure, changes and shows were full at the end. */
    private static final int[] full = new int[5];

    private static long seed = 20261119L;

    public static void main(String[] args) {
        int wrong = 0;
        int[] thrown = new int[KINDS];
        int[] answered = new int[KINDS];
        for (int run = 0; run < RUNS && wrong < 10; run++) {
            wrong += runOnce(run, thrown, answered);
        }
        for (int kind = 0; kind < KINDS; kind++) {
            if (answered[kind] < RUNS || canThrow(kind) && thrown[kind] < RUNS / 4) {
                wrong++;
                System.out.println("too few calls of kind " + kind + ": " + answered[kind]
                        + " answered, " + thrown[kind] + " threw");
            }
        }
        for (int number : full) {
            if (number < RUNS / 20) {
                wrong++;
                System.out.println("too few runs reached the bounds: " + Arrays.toString(full));
            }
        }
        System.out.println("ModelTests: " + RUNS + " runs, " + wrong + " wrong");
        System.exit(wrong == 0 ? 0 : 1);
    }

    private static boolean canThrow(int kind) {
        return kind != 7 && kind != 8 && kind != 23;
    }

    /** Stops at the first wrong answer of the run: those behind it would follow from it. */
    private static int runOnce(int run, int[] thrown, int[] answered) {
        SkyLoom loom = new SkyLoom();
        Model model = new Model();
        boolean narrow = next(2) == 0;
        int[] favourites = FAVOURITES[run % FAVOURITES.length];
        for (int call = 0; call < CALLS; call++) {
            boolean favourite = favourites.length > 0 && next(2) == 0;
            int kind = favourite ? favourites[next(favourites.length)] : next(KINDS);
            int[] a = arguments(kind, model, narrow);
            for (int more = 0; more < 6 && (kind == 3 || kind == 21) && next(8) > 0; more++) {
                a = model.refusal(kind, a) == null ? a : arguments(kind, model, narrow);
            }
            String got = answerOf(loom, kind, a);
            String want = model.answerOf(kind, a);
            if (!got.equals(want)) {
                System.out.println("run " + run + ", call " + call + ", kind " + kind
                        + Arrays.toString(a) + ": " + got + ", due is " + want);
                return 1;
            }
            if (want.startsWith("java")) {
                thrown[kind]++;
            } else {
                answered[kind]++;
            }
        }
        noteFull(model);
        return 0;
    }

    private static void noteFull(Model model) {
        boolean fullFigure = false;
        for (List<int[]> lines : model.figures) {
            fullFigure |= lines.size() == 10;
        }
        full[0] += model.places.size() == 24 ? 1 : 0;
        full[1] += model.figures.size() == 8 ? 1 : 0;
        full[2] += fullFigure ? 1 : 0;
        full[3] += model.changes.size() == 30 ? 1 : 0;
        full[4] += model.shows.size() == 12 ? 1 : 0;
    }

    // ---- calls

    private static int[] arguments(int kind, Model model, boolean narrow) {
        int star = near(0, model.places.size() - 1);
        int other = near(0, model.places.size() - 1);
        int figure = near(0, model.figures.size() - 1);
        int across = narrow ? near(0, 6) : near(0, 359);
        int up = narrow ? near(0, 5) : near(-90, 90);
        int latitude = near(-90, 90);
        int day = near(0, 364);
        int hour = near(0, 23);
        switch (kind) {
            case 0: return new int[] {across, up};
            case 1: return new int[] {star, across, up};
            case 3: return new int[] {figure, star, other};
            case 4: return new int[] {figure, near(0, 3)};
            case 5: case 2: case 7: case 8: case 23: return new int[0];
            case 6: case 15: return new int[] {figure};
            case 9: case 10: return new int[] {star};
            case 11: return new int[] {figure, near(0, model.figures.size() - 1)};
            case 12: return new int[] {near(0, 5), figure, near(-1, narrow ? 2 : 9)};
            case 13: return new int[] {figure, near(0, narrow ? 2 : 9)};
            case 14: return new int[] {star, latitude, day, hour};
            case 16: case 21: return new int[] {figure, latitude, day, hour};
            case 17: case 18: case 19: return new int[] {figure, latitude, day};
            case 20: return new int[] {figure, latitude, hour};
            default: return new int[] {near(0, model.shows.size() - 1)};
        }
    }

    /** Mostly within the bounds, sometimes on them or just or far behind them. */
    private static int near(int least, int most) {
        int pick = next(64);
        if (pick == 0) {
            return least - 1;
        }
        if (pick == 1) {
            return most + 1;
        }
        if (pick == 2) {
            return next(2) == 0 ? Integer.MIN_VALUE : Integer.MAX_VALUE;
        }
        if (pick < 6) {
            return pick == 3 ? least : most;
        }
        return most < least ? least : least + next(most - least + 1);
    }

    private static int next(int bound) {
        seed = seed * 6364136223846793005L + 1442695040888963407L;
        return (int) ((seed >>> 33) % bound);
    }

    private static String answerOf(SkyLoom x, int kind, int[] a) {
        try {
            return String.valueOf(call(x, kind, a));
        } catch (RuntimeException thrown) {
            return thrown.getClass().getName();
        }
    }

    private static int call(SkyLoom x, int kind, int[] a) {
        switch (kind) {
            case 0: return x.addStar(a[0], a[1]);
            case 1: return x.correct(a[0], a[1], a[2]);
            case 2: return x.addFigure();
            case 3: return x.draw(a[0], a[1], a[2]);
            case 4: return x.erase(a[0], a[1]);
            case 5: return x.undo();
            case 6: return x.lines(a[0]);
            case 7: return x.stars();
            case 8: return x.figures();
            case 9: return x.placeOf(a[0]);
            case 10: return x.figureOf(a[0]);
            case 11: return x.crossings(a[0], a[1]);
            case 12: return x.vote(a[0], a[1], a[2]);
            case 13: return x.votes(a[0], a[1]);
            case 14: return x.height(a[0], a[1], a[2], a[3]);
            case 15: return x.nameOf(a[0]);
            case 16: return x.isUp(a[0], a[1], a[2], a[3]) ? 1 : 0;
            case 17: return x.hours(a[0], a[1], a[2]);
            case 18: return x.hoursByStars(a[0], a[1], a[2]);
            case 19: return x.bestHour(a[0], a[1], a[2]);
            case 20: return x.season(a[0], a[1], a[2]);
            case 21: return x.plan(a[0], a[1], a[2], a[3]);
            case 22: return x.isWrong(a[0]) ? 1 : 0;
            default: return x.wrong();
        }
    }

    /** The places of the stars and the lines of the figures, as they stood before a change. */
    private static final class Snapshot {
        final List<int[]> places = new ArrayList<>();
        final List<List<int[]>> figures = new ArrayList<>();
    }

    /** The document once more. Refused calls answer the exception that is due by its name. */
    private static final class Model {

        final List<int[]> places = new ArrayList<>();
        final List<List<int[]>> figures = new ArrayList<>();
        final List<int[]> shows = new ArrayList<>();
        private final List<Snapshot> changes = new ArrayList<>();
        private final int[][] votes = new int[6][8];

        Model() {
            for (int[] row : votes) {
                Arrays.fill(row, -1);
            }
        }

        String answerOf(int kind, int[] a) {
            Class<?> refusal = refusal(kind, a);
            return refusal != null ? refusal.getName() : String.valueOf(answer(kind, a));
        }

        // ---- what is refused

        private Class<?> refusal(int kind, int[] a) {
            if (lacks(kind, a)) {
                return IndexOutOfBoundsException.class;
            }
            if (isOutOfRange(kind, a)) {
                return IllegalArgumentException.class;
            }
            return isNotNow(kind, a) ? IllegalStateException.class : null;
        }

        private boolean lacks(int kind, int[] a) {
            switch (kind) {
                case 0: case 2: case 5: case 7: case 8: case 23: return false;
                case 1: case 9: case 10: case 14: return isNo(a[0], places.size());
                case 3:
                    return isNo(a[0], figures.size()) || isNo(a[1], places.size())
                            || isNo(a[2], places.size());
                case 4: return isNo(a[0], figures.size()) || isNo(a[1], figures.get(a[0]).size());
                case 11: return isNo(a[0], figures.size()) || isNo(a[1], figures.size());
                case 12: return isNo(a[0], 6) || isNo(a[1], figures.size());
                case 22: return isNo(a[0], shows.size());
                default: return isNo(a[0], figures.size());
            }
        }

        private static boolean isNo(int number, int count) {
            return number < 0 || number >= count;
        }

        private static boolean isOutOfRange(int kind, int[] a) {
            switch (kind) {
                case 0: return isOff(a[0], 0, 359) || isOff(a[1], -90, 90);
                case 1: return isOff(a[1], 0, 359) || isOff(a[2], -90, 90);
                case 3: return a[1] == a[2];
                case 12: return isOff(a[2], -1, 9);
                case 13: return isOff(a[1], 0, 9);
                case 14: case 16: case 21:
                    return isOff(a[1], -90, 90) || isOff(a[2], 0, 364) || isOff(a[3], 0, 23);
                case 17: case 18: case 19: return isOff(a[1], -90, 90) || isOff(a[2], 0, 364);
                case 20: return isOff(a[1], -90, 90) || isOff(a[2], 0, 23);
                default: return false;
            }
        }

        private static boolean isOff(int value, int least, int most) {
            return value < least || value > most;
        }

        private boolean isNotNow(int kind, int[] a) {
            switch (kind) {
                case 0: return places.size() == 24;
                case 2: return figures.size() == 8;
                case 3: return !canDraw(a[0], a[1], a[2]);
                case 5: return changes.isEmpty();
                case 21:
                    return shows.size() == 12 || names()[a[0]] == -1
                            || !up(a[0], a[1], a[2], a[3]);
                default: return false;
            }
        }

        private boolean canDraw(int figure, int star, int other) {
            for (int[] line : figures.get(figure)) {
                if (Set.of(line[0], line[1]).equals(Set.of(star, other))) {
                    return false;
                }
            }
            boolean free = ownerOf(star) == -1 || ownerOf(star) == figure;
            boolean otherFree = ownerOf(other) == -1 || ownerOf(other) == figure;
            return free && otherFree && figures.get(figure).size() < 10;
        }

        // ---- what is answered

        private int answer(int kind, int[] a) {
            switch (kind) {
                case 0:
                    places.add(new int[] {a[0], a[1]});
                    return places.size() - 1;
                case 1:
                    remember();
                    places.set(a[0], new int[] {a[1], a[2]});
                    return wrongShows();
                case 2:
                    figures.add(new ArrayList<>());
                    return figures.size() - 1;
                case 3:
                    remember();
                    figures.get(a[0]).add(new int[] {a[1], a[2]});
                    return figures.get(a[0]).size() - 1;
                case 4:
                    remember();
                    figures.get(a[0]).remove(a[1]);
                    return figures.get(a[0]).size();
                case 5: return restore();
                case 6: return figures.get(a[0]).size();
                case 7: return places.size();
                case 8: return figures.size();
                case 9: return 1000 * places.get(a[0])[0] + (places.get(a[0])[1] + 90);
                case 10: return ownerOf(a[0]);
                default: return answerMore(kind, a);
            }
        }

        private int answerMore(int kind, int[] a) {
            switch (kind) {
                case 11: return crossings(a[0], a[1]);
                case 12: {
                    int before = votes[a[0]][a[1]];
                    votes[a[0]][a[1]] = a[2];
                    return before;
                }
                case 13: return votesFor(a[0], a[1]);
                case 14: return height(places.get(a[0]), a[1], a[2], a[3]);
                case 15: return names()[a[0]];
                case 16: return up(a[0], a[1], a[2], a[3]) ? 1 : 0;
                case 17: case 18: return hours(a[0], a[1], a[2]);
                case 19: return bestHour(a[0], a[1], a[2]);
                case 20: return season(a[0], a[1], a[2]);
                case 21:
                    shows.add(new int[] {a[0], a[1], a[2], a[3], names()[a[0]]});
                    return shows.size() - 1;
                case 22: return isWrong(shows.get(a[0])) ? 1 : 0;
                default: return wrongShows();
            }
        }

        // ---- stars and lines

        private void remember() {
            Snapshot now = new Snapshot();
            now.places.addAll(places);
            for (List<int[]> lines : figures) {
                now.figures.add(new ArrayList<>(lines));
            }
            changes.add(now);
            if (changes.size() > 30) {
                changes.remove(0);
            }
        }

        /** Stars and figures added since the change was made stay. */
        private int restore() {
            Snapshot then = changes.remove(changes.size() - 1);
            for (int star = 0; star < then.places.size(); star++) {
                places.set(star, then.places.get(star));
            }
            for (int figure = 0; figure < then.figures.size(); figure++) {
                figures.set(figure, then.figures.get(figure));
            }
            return changes.size();
        }

        private int ownerOf(int star) {
            for (int figure = 0; figure < figures.size(); figure++) {
                if (starsOf(figure).contains(star)) {
                    return figure;
                }
            }
            return -1;
        }

        private Set<Integer> starsOf(int figure) {
            Set<Integer> stars = new HashSet<>();
            for (int[] line : figures.get(figure)) {
                stars.add(line[0]);
                stars.add(line[1]);
            }
            return stars;
        }

        private int crossings(int figure, int other) {
            int twice = 0;
            for (int[] line : figures.get(figure)) {
                for (int[] second : figures.get(other)) {
                    Set<Integer> ends = new HashSet<>(
                            List.of(line[0], line[1], second[0], second[1]));
                    if (line != second && ends.size() == 4 && meet(line, second)) {
                        twice += figure == other ? 1 : 2;
                    }
                }
            }
            return twice / 2;
        }

        /** Two lines are apart if and only if their shadows on one of these axes are. */
        private boolean meet(int[] line, int[] second) {
            int[] a = places.get(line[0]);
            int[] b = places.get(line[1]);
            int[] c = places.get(second[0]);
            int[] d = places.get(second[1]);
            int[] along = {b[0] - a[0], b[1] - a[1]};
            int[] alongSecond = {d[0] - c[0], d[1] - c[1]};
            int[][] axes = {{1, 0}, {0, 1}, along, alongSecond,
                {-along[1], along[0]}, {-alongSecond[1], alongSecond[0]}};
            for (int[] axis : axes) {
                long p = shadow(axis, a);
                long q = shadow(axis, b);
                long r = shadow(axis, c);
                long s = shadow(axis, d);
                if (Math.max(p, q) < Math.min(r, s) || Math.max(r, s) < Math.min(p, q)) {
                    return false;
                }
            }
            return true;
        }

        private static long shadow(int[] axis, int[] place) {
            return (long) axis[0] * place[0] + (long) axis[1] * place[1];
        }

        // ---- names

        private int votesFor(int figure, int name) {
            int count = 0;
            for (int[] row : votes) {
                count += row[figure] == name ? 1 : 0;
            }
            return count;
        }

        private int[] names() {
            List<int[]> order = new ArrayList<>();
            for (int figure = 0; figure < figures.size(); figure++) {
                for (int name = 0; name <= 9; name++) {
                    if (votesFor(figure, name) > 0) {
                        order.add(new int[] {-votesFor(figure, name), figure, name});
                    }
                }
            }
            order.sort(Arrays::compare);
            int[] names = new int[8];
            Arrays.fill(names, -1);
            Set<Integer> given = new HashSet<>();
            for (int[] entry : order) {
                if (names[entry[1]] == -1 && given.add(entry[2])) {
                    names[entry[1]] = entry[2];
                }
            }
            return names;
        }

        // ---- heights

        private static long divide(long value, long by) {
            return new BigDecimal(value).divide(new BigDecimal(by), 0, RoundingMode.FLOOR)
                    .longValueExact();
        }

        private static long sine(int angle) {
            int d = angle;
            while (d < 0) {
                d += 360;
            }
            while (d >= 360) {
                d -= 360;
            }
            if (d >= 180) {
                return -sine(d - 180);
            }
            return SINES[d];
        }

        private static final long[] SINES = sines();

        private static long[] sines() {
            long[] sines = new long[180];
            for (int d = 0; d < 180; d++) {
                sines[d] = divide(4000L * d * (180 - d), 40500L - d * (180 - d));
            }
            return sines;
        }

        private static int height(int[] place, int latitude, int day, int hour) {
            int turn = 15 * hour + day - place[0];
            long inner = sine(latitude + 90) * sine(place[1] + 90) * sine(turn + 90);
            return (int) divide(sine(latitude) * sine(place[1]) + divide(inner, 1000), 1000);
        }

        private boolean up(int figure, int latitude, int day, int hour) {
            for (int star : starsOf(figure)) {
                if (height(places.get(star), latitude, day, hour) <= 0) {
                    return false;
                }
            }
            return !figures.get(figure).isEmpty();
        }

        private int hours(int figure, int latitude, int day) {
            int set = 0;
            int weight = 1;
            for (int hour = 0; hour < 24; hour++) {
                set += up(figure, latitude, day, hour) ? weight : 0;
                weight *= 2;
            }
            return set;
        }

        private int bestHour(int figure, int latitude, int day) {
            int best = -1;
            int highest = Integer.MIN_VALUE;
            for (int hour = 23; hour >= 0; hour--) {
                int lowest = Integer.MAX_VALUE;
                for (int star : starsOf(figure)) {
                    lowest = Math.min(lowest, height(places.get(star), latitude, day, hour));
                }
                if (up(figure, latitude, day, hour) && lowest >= highest) {
                    best = hour;
                    highest = lowest;
                }
            }
            return best;
        }

        private int season(int figure, int latitude, int hour) {
            int days = 0;
            for (int day = 0; day <= 364; day++) {
                days += up(figure, latitude, day, hour) ? 1 : 0;
            }
            return days;
        }

        // ---- shows

        private boolean isWrong(int[] show) {
            return !up(show[0], show[1], show[2], show[3]) || names()[show[0]] != show[4];
        }

        private int wrongShows() {
            int count = 0;
            for (int[] show : shows) {
                count += isWrong(show) ? 1 : 0;
            }
            return count;
        }
    }
}
